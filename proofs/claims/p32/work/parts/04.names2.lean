abbrev Gw (big : List Cond) (w : Cond) : Prop := w ∈ big ∧ ((w.onTables && w.keeps) = true ∨ ∃ ty, w = .arrayClass ty)
theorem gi_nil {big : List Cond} : GoodIn big [] := fun _ h => absurd h List.not_mem_nil
theorem gi_cons {big ws : List Cond} {w : Cond} (h : Gw big w) (t : GoodIn big ws) : GoodIn big (w :: ws) := fun x hx => (List.mem_cons.mp hx).elim (fun e => by subst e; exact h) (t x)
theorem gi_filter {big L : List Cond} (h : ∀ w ∈ L.filter goodWord, w ∈ big) : GoodIn big (L.filter goodWord) := goodIn_sub h (List.all_eq_true.mpr (fun _ hw => (List.mem_filter.mp hw).2))
theorem lg_wsX0_init_0 : GoodIn wsX0_init wsX0_init_r1 := goodIn_sub (fun _ h => (List.mem_cons_of_mem _ (List.mem_append_left _ (List.mem_append_left _ (List.mem_append_left _ (List.mem_append_left _ h)))))) (by decide +kernel)
theorem lg_wsX0_init_1 : GoodIn wsX0_init wsX0_init_r2 := goodIn_sub (fun _ h => (List.mem_cons_of_mem _ (List.mem_append_left _ (List.mem_append_left _ (List.mem_append_left _ (List.mem_append_right _ h)))))) (by decide +kernel)
theorem ls_wsX0_init_0 : GoodIn wsX0_init wsX00 := goodIn_sub (fun _ h => (List.mem_cons_of_mem _ (List.mem_append_left _ (List.mem_append_left _ (List.mem_append_right _ h))))) (by decide +kernel)
theorem ls_wsX0_init_1 : GoodIn wsX0_init wsX30 := goodIn_sub (fun _ h => (List.mem_cons_of_mem _ (List.mem_append_left _ (List.mem_append_right _ h)))) (by decide +kernel)
theorem ls_wsX0_init_2 : GoodIn wsX0_init wsX10 := goodIn_sub (fun _ h => (List.mem_cons_of_mem _ (List.mem_append_right _ h))) (by decide +kernel)
set_option maxRecDepth 20000 in
theorem ggX0_init_X3_init : GoodIn wsX0_init wsX3_init := (gi_cons (lg_wsX0_init_0 _ (List.mem_of_getElem? (i := 20) rfl)) (goodIn_app (gi_cons (lg_wsX0_init_0 _ (List.mem_of_getElem? (i := 21) rfl)) (gi_cons (lg_wsX0_init_0 _ (List.mem_of_getElem? (i := 1) rfl)) (gi_cons (lg_wsX0_init_0 _ (List.mem_of_getElem? (i := 2) rfl)) (gi_cons (lg_wsX0_init_0 _ (List.mem_of_getElem? (i := 6) rfl)) (gi_cons (lg_wsX0_init_0 _ (List.mem_of_getElem? (i := 22) rfl)) (gi_cons (lg_wsX0_init_0 _ (List.mem_of_getElem? (i := 23) rfl)) gi_nil)))))) ls_wsX0_init_1))
set_option maxRecDepth 20000 in
theorem gX0_init_X3_init_n27 : GoodIn wsX0_init (wsX3_init) := ggX0_init_X3_init
set_option maxRecDepth 20000 in
theorem ggX0_init_X1_init : GoodIn wsX0_init wsX1_init := (gi_cons (lg_wsX0_init_1 _ (List.mem_of_getElem? (i := 1) rfl)) (goodIn_app (gi_cons (lg_wsX0_init_1 _ (List.mem_of_getElem? (i := 2) rfl)) (gi_cons (lg_wsX0_init_0 _ (List.mem_of_getElem? (i := 1) rfl)) (gi_cons (lg_wsX0_init_0 _ (List.mem_of_getElem? (i := 2) rfl)) (gi_cons (lg_wsX0_init_0 _ (List.mem_of_getElem? (i := 6) rfl)) (gi_cons (lg_wsX0_init_1 _ (List.mem_of_getElem? (i := 3) rfl)) (gi_cons (lg_wsX0_init_1 _ (List.mem_of_getElem? (i := 4) rfl)) (gi_cons (lg_wsX0_init_1 _ (List.mem_of_getElem? (i := 5) rfl)) gi_nil))))))) ls_wsX0_init_2))
set_option maxRecDepth 20000 in
theorem gX0_init_X1_init_n45 : GoodIn wsX0_init (wsX1_init) := ggX0_init_X1_init
theorem dX0_init_0 : decode cX0_init 0 = .ok (.aload_n 0, 1) := by decide +kernel
theorem dX0_init_1 : decode cX0_init 1 = .ok (.invokespecial 3, 3) := by decide +kernel
theorem dX0_init_4 : decode cX0_init 4 = .ok (.aload_n 0, 1) := by decide +kernel
theorem dX0_init_5 : decode cX0_init 5 = .ok (.bipush 64, 2) := by decide +kernel
theorem dX0_init_7 : decode cX0_init 7 = .ok (.newarray .boolean, 2) := by decide +kernel
theorem dX0_init_9 : decode cX0_init 9 = .ok (.putfield 9, 3) := by decide +kernel
theorem dX0_init_12 : decode cX0_init 12 = .ok (.aload_n 0, 1) := by decide +kernel
theorem dX0_init_13 : decode cX0_init 13 = .ok (.bipush 64, 2) := by decide +kernel
theorem dX0_init_15 : decode cX0_init 15 = .ok (.newarray .boolean, 2) := by decide +kernel
theorem dX0_init_17 : decode cX0_init 17 = .ok (.putfield 15, 3) := by decide +kernel
theorem dX0_init_20 : decode cX0_init 20 = .ok (.aload_n 0, 1) := by decide +kernel
theorem dX0_init_21 : decode cX0_init 21 = .ok (.bipush 64, 2) := by decide +kernel
theorem dX0_init_23 : decode cX0_init 23 = .ok (.newarray .int, 2) := by decide +kernel
theorem dX0_init_25 : decode cX0_init 25 = .ok (.putfield 18, 3) := by decide +kernel
theorem dX0_init_28 : decode cX0_init 28 = .ok (.aload_n 0, 1) := by decide +kernel
theorem dX0_init_29 : decode cX0_init 29 = .ok (.bipush 64, 2) := by decide +kernel
theorem dX0_init_31 : decode cX0_init 31 = .ok (.newarray .int, 2) := by decide +kernel
theorem dX0_init_33 : decode cX0_init 33 = .ok (.putfield 22, 3) := by decide +kernel
theorem dX0_init_36 : decode cX0_init 36 = .ok (.aload_n 0, 1) := by decide +kernel
theorem dX0_init_37 : decode cX0_init 37 = .ok (.new 25, 3) := by decide +kernel
theorem dX0_init_40 : decode cX0_init 40 = .ok (.dup, 1) := by decide +kernel
theorem dX0_init_41 : decode cX0_init 41 = .ok (.invokespecial 27, 3) := by decide +kernel
theorem dX0_init_44 : decode cX0_init 44 = .ok (.putfield 28, 3) := by decide +kernel
theorem dX0_init_47 : decode cX0_init 47 = .ok (.aload_n 0, 1) := by decide +kernel
theorem dX0_init_48 : decode cX0_init 48 = .ok (.iconst 4, 1) := by decide +kernel
theorem dX0_init_49 : decode cX0_init 49 = .ok (.anewarray 32, 3) := by decide +kernel
theorem dX0_init_52 : decode cX0_init 52 = .ok (.putfield 34, 3) := by decide +kernel
theorem dX0_init_55 : decode cX0_init 55 = .ok (.aload_n 0, 1) := by decide +kernel
theorem dX0_init_56 : decode cX0_init 56 = .ok (.bipush 6, 2) := by decide +kernel
theorem dX0_init_58 : decode cX0_init 58 = .ok (.putfield 38, 3) := by decide +kernel
theorem dX0_init_61 : decode cX0_init 61 = .ok (.aload_n 0, 1) := by decide +kernel
theorem dX0_init_62 : decode cX0_init 62 = .ok (.aload_n 1, 1) := by decide +kernel
theorem dX0_init_63 : decode cX0_init 63 = .ok (.putfield 42, 3) := by decide +kernel
theorem dX0_init_66 : decode cX0_init 66 = .ok (.iconst 0, 1) := by decide +kernel
theorem dX0_init_67 : decode cX0_init 67 = .ok (.istore_n 2, 1) := by decide +kernel
theorem dX0_init_68 : decode cX0_init 68 = .ok (.iload_n 2, 1) := by decide +kernel
theorem dX0_init_69 : decode cX0_init 69 = .ok (.bipush 64, 2) := by decide +kernel
theorem dX0_init_71 : decode cX0_init 71 = .ok (.if_icmp .ge 16, 3) := by decide +kernel
theorem dX0_init_74 : decode cX0_init 74 = .ok (.aload_n 0, 1) := by decide +kernel
theorem dX0_init_75 : decode cX0_init 75 = .ok (.getfield 22, 3) := by decide +kernel
theorem dX0_init_78 : decode cX0_init 78 = .ok (.iload_n 2, 1) := by decide +kernel
theorem dX0_init_79 : decode cX0_init 79 = .ok (.iconst (-1), 1) := by decide +kernel
theorem dX0_init_80 : decode cX0_init 80 = .ok (.iastore, 1) := by decide +kernel
theorem dX0_init_81 : decode cX0_init 81 = .ok (.iinc 2 1, 3) := by decide +kernel
theorem dX0_init_84 : decode cX0_init 84 = .ok (.goto (-16), 3) := by decide +kernel
theorem dX0_init_87 : decode cX0_init 87 = .ok (.iconst 0, 1) := by decide +kernel
theorem dX0_init_88 : decode cX0_init 88 = .ok (.istore_n 2, 1) := by decide +kernel
theorem dX0_init_89 : decode cX0_init 89 = .ok (.iload_n 2, 1) := by decide +kernel
theorem dX0_init_90 : decode cX0_init 90 = .ok (.iconst 4, 1) := by decide +kernel
theorem dX0_init_91 : decode cX0_init 91 = .ok (.if_icmp .ge 22, 3) := by decide +kernel
theorem dX0_init_94 : decode cX0_init 94 = .ok (.aload_n 0, 1) := by decide +kernel
theorem dX0_init_95 : decode cX0_init 95 = .ok (.getfield 34, 3) := by decide +kernel
theorem dX0_init_98 : decode cX0_init 98 = .ok (.iload_n 2, 1) := by decide +kernel
theorem dX0_init_99 : decode cX0_init 99 = .ok (.new 32, 3) := by decide +kernel
theorem dX0_init_102 : decode cX0_init 102 = .ok (.dup, 1) := by decide +kernel
theorem dX0_init_103 : decode cX0_init 103 = .ok (.invokespecial 45, 3) := by decide +kernel
theorem dX0_init_106 : decode cX0_init 106 = .ok (.aastore, 1) := by decide +kernel
theorem dX0_init_107 : decode cX0_init 107 = .ok (.iinc 2 1, 3) := by decide +kernel
theorem dX0_init_110 : decode cX0_init 110 = .ok (.goto (-21), 3) := by decide +kernel
theorem dX0_init_113 : decode cX0_init 113 = .ok (.return_, 1) := by decide +kernel
theorem lg_wsX0_copyFrom_0 : GoodIn wsX0_copyFrom wsX0_copyFrom_r1 := goodIn_sub (fun _ h => (List.mem_cons_of_mem _ (List.mem_append_left _ (List.mem_append_left _ (List.mem_append_left _ (List.mem_append_left _ h)))))) (by decide +kernel)
theorem lg_wsX0_copyFrom_1 : GoodIn wsX0_copyFrom wsX0_copyFrom_r2 := goodIn_sub (fun _ h => (List.mem_cons_of_mem _ (List.mem_append_left _ (List.mem_append_left _ (List.mem_append_left _ (List.mem_append_right _ h)))))) (by decide +kernel)
theorem ls_wsX0_copyFrom_0 : GoodIn wsX0_copyFrom wsX00 := goodIn_sub (fun _ h => (List.mem_cons_of_mem _ (List.mem_append_left _ (List.mem_append_left _ (List.mem_append_right _ h))))) (by decide +kernel)
theorem ls_wsX0_copyFrom_1 : GoodIn wsX0_copyFrom wsX30 := goodIn_sub (fun _ h => (List.mem_cons_of_mem _ (List.mem_append_left _ (List.mem_append_right _ h)))) (by decide +kernel)
theorem ls_wsX0_copyFrom_2 : GoodIn wsX0_copyFrom wsX10 := goodIn_sub (fun _ h => (List.mem_cons_of_mem _ (List.mem_append_right _ h))) (by decide +kernel)
set_option maxRecDepth 20000 in
theorem ggX0_copyFrom_X3_copyFrom : GoodIn wsX0_copyFrom wsX3_copyFrom := (gi_cons (lg_wsX0_copyFrom_0 _ (List.mem_of_getElem? (i := 21) rfl)) (goodIn_app (gi_cons (lg_wsX0_copyFrom_0 _ (List.mem_of_getElem? (i := 22) rfl)) (gi_cons (lg_wsX0_copyFrom_0 _ (List.mem_of_getElem? (i := 23) rfl)) (gi_cons (lg_wsX0_copyFrom_1 _ (List.mem_of_getElem? (i := 0) rfl)) (gi_cons (lg_wsX0_copyFrom_1 _ (List.mem_of_getElem? (i := 1) rfl)) (gi_cons (lg_wsX0_copyFrom_0 _ (List.mem_of_getElem? (i := 4) rfl)) (gi_cons (lg_wsX0_copyFrom_0 _ (List.mem_of_getElem? (i := 5) rfl)) (gi_cons (lg_wsX0_copyFrom_0 _ (List.mem_of_getElem? (i := 6) rfl)) (gi_cons (lg_wsX0_copyFrom_1 _ (List.mem_of_getElem? (i := 2) rfl)) gi_nil)))))))) ls_wsX0_copyFrom_1))
set_option maxRecDepth 20000 in
theorem gX0_copyFrom_X3_copyFrom : GoodIn wsX0_copyFrom (wsV RX0 52 RX3 yX3_copyFrom wsX3_copyFrom) := goodIn_app (gi_cons (lg_wsX0_copyFrom_0 _ (List.mem_of_getElem? (i := 17) rfl)) (gi_cons (lg_wsX0_copyFrom_0 _ (List.mem_of_getElem? (i := 18) rfl)) (gi_cons (lg_wsX0_copyFrom_0 _ (List.mem_of_getElem? (i := 19) rfl)) (gi_cons (lg_wsX0_copyFrom_0 _ (List.mem_of_getElem? (i := 20) rfl)) gi_nil)))) ggX0_copyFrom_X3_copyFrom
set_option maxRecDepth 20000 in
theorem ggX0_copyFrom_X1_copyFrom : GoodIn wsX0_copyFrom wsX1_copyFrom := (gi_cons (lg_wsX0_copyFrom_1 _ (List.mem_of_getElem? (i := 7) rfl)) (goodIn_app (gi_cons (lg_wsX0_copyFrom_1 _ (List.mem_of_getElem? (i := 8) rfl)) (gi_cons (lg_wsX0_copyFrom_1 _ (List.mem_of_getElem? (i := 9) rfl)) (gi_cons (lg_wsX0_copyFrom_1 _ (List.mem_of_getElem? (i := 10) rfl)) (gi_cons (lg_wsX0_copyFrom_1 _ (List.mem_of_getElem? (i := 11) rfl)) (gi_cons (lg_wsX0_copyFrom_1 _ (List.mem_of_getElem? (i := 12) rfl)) (gi_cons (lg_wsX0_copyFrom_1 _ (List.mem_of_getElem? (i := 13) rfl)) (gi_cons (lg_wsX0_copyFrom_0 _ (List.mem_of_getElem? (i := 4) rfl)) (gi_cons (lg_wsX0_copyFrom_0 _ (List.mem_of_getElem? (i := 5) rfl)) (gi_cons (lg_wsX0_copyFrom_0 _ (List.mem_of_getElem? (i := 6) rfl)) (gi_cons (lg_wsX0_copyFrom_1 _ (List.mem_of_getElem? (i := 14) rfl)) gi_nil)))))))))) ls_wsX0_copyFrom_2))
set_option maxRecDepth 20000 in
theorem gX0_copyFrom_X1_copyFrom : GoodIn wsX0_copyFrom (wsV RX0 59 RX1 yX1_copyFrom wsX1_copyFrom) := goodIn_app (gi_cons (lg_wsX0_copyFrom_1 _ (List.mem_of_getElem? (i := 3) rfl)) (gi_cons (lg_wsX0_copyFrom_1 _ (List.mem_of_getElem? (i := 4) rfl)) (gi_cons (lg_wsX0_copyFrom_1 _ (List.mem_of_getElem? (i := 5) rfl)) (gi_cons (lg_wsX0_copyFrom_1 _ (List.mem_of_getElem? (i := 6) rfl)) gi_nil)))) ggX0_copyFrom_X1_copyFrom
theorem dX0_copyFrom_0 : decode cX0_copyFrom 0 = .ok (.iconst 0, 1) := by decide +kernel
theorem dX0_copyFrom_1 : decode cX0_copyFrom 1 = .ok (.istore_n 2, 1) := by decide +kernel
theorem dX0_copyFrom_2 : decode cX0_copyFrom 2 = .ok (.iload_n 2, 1) := by decide +kernel
theorem dX0_copyFrom_3 : decode cX0_copyFrom 3 = .ok (.bipush 64, 2) := by decide +kernel
theorem dX0_copyFrom_5 : decode cX0_copyFrom 5 = .ok (.if_icmp .ge 33, 3) := by decide +kernel
theorem dX0_copyFrom_8 : decode cX0_copyFrom 8 = .ok (.aload_n 0, 1) := by decide +kernel
theorem dX0_copyFrom_9 : decode cX0_copyFrom 9 = .ok (.getfield 9, 3) := by decide +kernel
theorem dX0_copyFrom_12 : decode cX0_copyFrom 12 = .ok (.iload_n 2, 1) := by decide +kernel
theorem dX0_copyFrom_13 : decode cX0_copyFrom 13 = .ok (.aload_n 1, 1) := by decide +kernel
theorem dX0_copyFrom_14 : decode cX0_copyFrom 14 = .ok (.getfield 9, 3) := by decide +kernel
theorem dX0_copyFrom_17 : decode cX0_copyFrom 17 = .ok (.iload_n 2, 1) := by decide +kernel
theorem dX0_copyFrom_18 : decode cX0_copyFrom 18 = .ok (.baload, 1) := by decide +kernel
theorem dX0_copyFrom_19 : decode cX0_copyFrom 19 = .ok (.bastore, 1) := by decide +kernel
theorem dX0_copyFrom_20 : decode cX0_copyFrom 20 = .ok (.aload_n 0, 1) := by decide +kernel
theorem dX0_copyFrom_21 : decode cX0_copyFrom 21 = .ok (.getfield 15, 3) := by decide +kernel
theorem dX0_copyFrom_24 : decode cX0_copyFrom 24 = .ok (.iload_n 2, 1) := by decide +kernel
theorem dX0_copyFrom_25 : decode cX0_copyFrom 25 = .ok (.aload_n 1, 1) := by decide +kernel
theorem dX0_copyFrom_26 : decode cX0_copyFrom 26 = .ok (.getfield 15, 3) := by decide +kernel
theorem dX0_copyFrom_29 : decode cX0_copyFrom 29 = .ok (.iload_n 2, 1) := by decide +kernel
theorem dX0_copyFrom_30 : decode cX0_copyFrom 30 = .ok (.baload, 1) := by decide +kernel
theorem dX0_copyFrom_31 : decode cX0_copyFrom 31 = .ok (.bastore, 1) := by decide +kernel
theorem dX0_copyFrom_32 : decode cX0_copyFrom 32 = .ok (.iinc 2 1, 3) := by decide +kernel
theorem dX0_copyFrom_35 : decode cX0_copyFrom 35 = .ok (.goto (-33), 3) := by decide +kernel
theorem dX0_copyFrom_38 : decode cX0_copyFrom 38 = .ok (.aload_n 1, 1) := by decide +kernel
theorem dX0_copyFrom_39 : decode cX0_copyFrom 39 = .ok (.getfield 18, 3) := by decide +kernel
theorem dX0_copyFrom_42 : decode cX0_copyFrom 42 = .ok (.iconst 0, 1) := by decide +kernel
theorem dX0_copyFrom_43 : decode cX0_copyFrom 43 = .ok (.aload_n 0, 1) := by decide +kernel
theorem dX0_copyFrom_44 : decode cX0_copyFrom 44 = .ok (.getfield 18, 3) := by decide +kernel
theorem dX0_copyFrom_47 : decode cX0_copyFrom 47 = .ok (.iconst 0, 1) := by decide +kernel
theorem dX0_copyFrom_48 : decode cX0_copyFrom 48 = .ok (.bipush 64, 2) := by decide +kernel
theorem dX0_copyFrom_50 : decode cX0_copyFrom 50 = .ok (.invokestatic 46, 3) := by decide +kernel
theorem dX0_copyFrom_53 : decode cX0_copyFrom 53 = .ok (.aload_n 1, 1) := by decide +kernel
theorem dX0_copyFrom_54 : decode cX0_copyFrom 54 = .ok (.getfield 22, 3) := by decide +kernel
theorem dX0_copyFrom_57 : decode cX0_copyFrom 57 = .ok (.iconst 0, 1) := by decide +kernel
theorem dX0_copyFrom_58 : decode cX0_copyFrom 58 = .ok (.aload_n 0, 1) := by decide +kernel
theorem dX0_copyFrom_59 : decode cX0_copyFrom 59 = .ok (.getfield 22, 3) := by decide +kernel
theorem dX0_copyFrom_62 : decode cX0_copyFrom 62 = .ok (.iconst 0, 1) := by decide +kernel
theorem dX0_copyFrom_63 : decode cX0_copyFrom 63 = .ok (.bipush 64, 2) := by decide +kernel
theorem dX0_copyFrom_65 : decode cX0_copyFrom 65 = .ok (.invokestatic 46, 3) := by decide +kernel
theorem dX0_copyFrom_68 : decode cX0_copyFrom 68 = .ok (.aload_n 0, 1) := by decide +kernel
theorem dX0_copyFrom_69 : decode cX0_copyFrom 69 = .ok (.getfield 28, 3) := by decide +kernel
theorem dX0_copyFrom_72 : decode cX0_copyFrom 72 = .ok (.aload_n 1, 1) := by decide +kernel
theorem dX0_copyFrom_73 : decode cX0_copyFrom 73 = .ok (.getfield 28, 3) := by decide +kernel
theorem dX0_copyFrom_76 : decode cX0_copyFrom 76 = .ok (.invokevirtual 52, 3) := by decide +kernel
theorem dX0_copyFrom_79 : decode cX0_copyFrom 79 = .ok (.aload_n 0, 1) := by decide +kernel
theorem dX0_copyFrom_80 : decode cX0_copyFrom 80 = .ok (.aload_n 1, 1) := by decide +kernel
theorem dX0_copyFrom_81 : decode cX0_copyFrom 81 = .ok (.getfield 56, 3) := by decide +kernel
theorem dX0_copyFrom_84 : decode cX0_copyFrom 84 = .ok (.putfield 56, 3) := by decide +kernel
theorem dX0_copyFrom_87 : decode cX0_copyFrom 87 = .ok (.iconst 0, 1) := by decide +kernel
theorem dX0_copyFrom_88 : decode cX0_copyFrom 88 = .ok (.istore_n 2, 1) := by decide +kernel
theorem dX0_copyFrom_89 : decode cX0_copyFrom 89 = .ok (.iload_n 2, 1) := by decide +kernel
theorem dX0_copyFrom_90 : decode cX0_copyFrom 90 = .ok (.aload_n 0, 1) := by decide +kernel
theorem dX0_copyFrom_91 : decode cX0_copyFrom 91 = .ok (.getfield 56, 3) := by decide +kernel
theorem dX0_copyFrom_94 : decode cX0_copyFrom 94 = .ok (.if_icmp .ge 24, 3) := by decide +kernel
theorem dX0_copyFrom_97 : decode cX0_copyFrom 97 = .ok (.aload_n 0, 1) := by decide +kernel
theorem dX0_copyFrom_98 : decode cX0_copyFrom 98 = .ok (.getfield 34, 3) := by decide +kernel
theorem dX0_copyFrom_101 : decode cX0_copyFrom 101 = .ok (.iload_n 2, 1) := by decide +kernel
theorem dX0_copyFrom_102 : decode cX0_copyFrom 102 = .ok (.aaload, 1) := by decide +kernel
theorem dX0_copyFrom_103 : decode cX0_copyFrom 103 = .ok (.aload_n 1, 1) := by decide +kernel
theorem dX0_copyFrom_104 : decode cX0_copyFrom 104 = .ok (.getfield 34, 3) := by decide +kernel
theorem dX0_copyFrom_107 : decode cX0_copyFrom 107 = .ok (.iload_n 2, 1) := by decide +kernel
theorem dX0_copyFrom_108 : decode cX0_copyFrom 108 = .ok (.aaload, 1) := by decide +kernel
theorem dX0_copyFrom_109 : decode cX0_copyFrom 109 = .ok (.invokevirtual 59, 3) := by decide +kernel
theorem dX0_copyFrom_112 : decode cX0_copyFrom 112 = .ok (.iinc 2 1, 3) := by decide +kernel
theorem dX0_copyFrom_115 : decode cX0_copyFrom 115 = .ok (.goto (-26), 3) := by decide +kernel
theorem dX0_copyFrom_118 : decode cX0_copyFrom 118 = .ok (.aload_n 0, 1) := by decide +kernel
theorem dX0_copyFrom_119 : decode cX0_copyFrom 119 = .ok (.aload_n 1, 1) := by decide +kernel
theorem dX0_copyFrom_120 : decode cX0_copyFrom 120 = .ok (.getfield 38, 3) := by decide +kernel
theorem dX0_copyFrom_123 : decode cX0_copyFrom 123 = .ok (.putfield 38, 3) := by decide +kernel
theorem dX0_copyFrom_126 : decode cX0_copyFrom 126 = .ok (.aload_n 0, 1) := by decide +kernel
theorem dX0_copyFrom_127 : decode cX0_copyFrom 127 = .ok (.aload_n 1, 1) := by decide +kernel
theorem dX0_copyFrom_128 : decode cX0_copyFrom 128 = .ok (.getfield 62, 3) := by decide +kernel
theorem dX0_copyFrom_131 : decode cX0_copyFrom 131 = .ok (.putfield 62, 3) := by decide +kernel
theorem dX0_copyFrom_134 : decode cX0_copyFrom 134 = .ok (.aload_n 0, 1) := by decide +kernel
theorem dX0_copyFrom_135 : decode cX0_copyFrom 135 = .ok (.aload_n 1, 1) := by decide +kernel
theorem dX0_copyFrom_136 : decode cX0_copyFrom 136 = .ok (.getfield 65, 3) := by decide +kernel
theorem dX0_copyFrom_139 : decode cX0_copyFrom 139 = .ok (.putfield 65, 3) := by decide +kernel
theorem dX0_copyFrom_142 : decode cX0_copyFrom 142 = .ok (.aload_n 0, 1) := by decide +kernel
theorem dX0_copyFrom_143 : decode cX0_copyFrom 143 = .ok (.aload_n 1, 1) := by decide +kernel
theorem dX0_copyFrom_144 : decode cX0_copyFrom 144 = .ok (.getfield 68, 3) := by decide +kernel
theorem dX0_copyFrom_147 : decode cX0_copyFrom 147 = .ok (.putfield 68, 3) := by decide +kernel
theorem dX0_copyFrom_150 : decode cX0_copyFrom 150 = .ok (.aload_n 0, 1) := by decide +kernel
theorem dX0_copyFrom_151 : decode cX0_copyFrom 151 = .ok (.aload_n 1, 1) := by decide +kernel
theorem dX0_copyFrom_152 : decode cX0_copyFrom 152 = .ok (.getfield 71, 3) := by decide +kernel
theorem dX0_copyFrom_155 : decode cX0_copyFrom 155 = .ok (.putfield 71, 3) := by decide +kernel
theorem dX0_copyFrom_158 : decode cX0_copyFrom 158 = .ok (.aload_n 0, 1) := by decide +kernel
theorem dX0_copyFrom_159 : decode cX0_copyFrom 159 = .ok (.aload_n 1, 1) := by decide +kernel
theorem dX0_copyFrom_160 : decode cX0_copyFrom 160 = .ok (.getfield 74, 3) := by decide +kernel
theorem dX0_copyFrom_163 : decode cX0_copyFrom 163 = .ok (.putfield 74, 3) := by decide +kernel
theorem dX0_copyFrom_166 : decode cX0_copyFrom 166 = .ok (.return_, 1) := by decide +kernel
theorem dX0_moundCount_0 : decode cX0_moundCount 0 = .ok (.iconst 0, 1) := by decide +kernel
theorem dX0_moundCount_1 : decode cX0_moundCount 1 = .ok (.istore_n 1, 1) := by decide +kernel
theorem dX0_moundCount_2 : decode cX0_moundCount 2 = .ok (.iconst 0, 1) := by decide +kernel
theorem dX0_moundCount_3 : decode cX0_moundCount 3 = .ok (.istore_n 2, 1) := by decide +kernel
theorem dX0_moundCount_4 : decode cX0_moundCount 4 = .ok (.iload_n 2, 1) := by decide +kernel
theorem dX0_moundCount_5 : decode cX0_moundCount 5 = .ok (.bipush 64, 2) := by decide +kernel
theorem dX0_moundCount_7 : decode cX0_moundCount 7 = .ok (.if_icmp .ge 26, 3) := by decide +kernel
theorem dX0_moundCount_10 : decode cX0_moundCount 10 = .ok (.iload_n 1, 1) := by decide +kernel
theorem dX0_moundCount_11 : decode cX0_moundCount 11 = .ok (.aload_n 0, 1) := by decide +kernel
theorem dX0_moundCount_12 : decode cX0_moundCount 12 = .ok (.getfield 9, 3) := by decide +kernel
theorem dX0_moundCount_15 : decode cX0_moundCount 15 = .ok (.iload_n 2, 1) := by decide +kernel
theorem dX0_moundCount_16 : decode cX0_moundCount 16 = .ok (.baload, 1) := by decide +kernel
theorem dX0_moundCount_17 : decode cX0_moundCount 17 = .ok (.ifCond .eq 7, 3) := by decide +kernel
theorem dX0_moundCount_20 : decode cX0_moundCount 20 = .ok (.iconst 1, 1) := by decide +kernel
theorem dX0_moundCount_21 : decode cX0_moundCount 21 = .ok (.goto 4, 3) := by decide +kernel
theorem dX0_moundCount_24 : decode cX0_moundCount 24 = .ok (.iconst 0, 1) := by decide +kernel
theorem dX0_moundCount_25 : decode cX0_moundCount 25 = .ok (.iadd, 1) := by decide +kernel
theorem dX0_moundCount_26 : decode cX0_moundCount 26 = .ok (.istore_n 1, 1) := by decide +kernel
theorem dX0_moundCount_27 : decode cX0_moundCount 27 = .ok (.iinc 2 1, 3) := by decide +kernel
theorem dX0_moundCount_30 : decode cX0_moundCount 30 = .ok (.goto (-26), 3) := by decide +kernel
theorem dX0_moundCount_33 : decode cX0_moundCount 33 = .ok (.iload_n 1, 1) := by decide +kernel
theorem dX0_moundCount_34 : decode cX0_moundCount 34 = .ok (.ireturn, 1) := by decide +kernel
theorem dX0_openedCount_0 : decode cX0_openedCount 0 = .ok (.iconst 0, 1) := by decide +kernel
theorem dX0_openedCount_1 : decode cX0_openedCount 1 = .ok (.istore_n 1, 1) := by decide +kernel
theorem dX0_openedCount_2 : decode cX0_openedCount 2 = .ok (.iconst 0, 1) := by decide +kernel
theorem dX0_openedCount_3 : decode cX0_openedCount 3 = .ok (.istore_n 2, 1) := by decide +kernel
theorem dX0_openedCount_4 : decode cX0_openedCount 4 = .ok (.iload_n 2, 1) := by decide +kernel
theorem dX0_openedCount_5 : decode cX0_openedCount 5 = .ok (.bipush 64, 2) := by decide +kernel
theorem dX0_openedCount_7 : decode cX0_openedCount 7 = .ok (.if_icmp .ge 26, 3) := by decide +kernel
theorem dX0_openedCount_10 : decode cX0_openedCount 10 = .ok (.iload_n 1, 1) := by decide +kernel
theorem dX0_openedCount_11 : decode cX0_openedCount 11 = .ok (.aload_n 0, 1) := by decide +kernel
theorem dX0_openedCount_12 : decode cX0_openedCount 12 = .ok (.getfield 15, 3) := by decide +kernel
theorem dX0_openedCount_15 : decode cX0_openedCount 15 = .ok (.iload_n 2, 1) := by decide +kernel
theorem dX0_openedCount_16 : decode cX0_openedCount 16 = .ok (.baload, 1) := by decide +kernel
theorem dX0_openedCount_17 : decode cX0_openedCount 17 = .ok (.ifCond .eq 7, 3) := by decide +kernel
theorem dX0_openedCount_20 : decode cX0_openedCount 20 = .ok (.iconst 1, 1) := by decide +kernel
theorem dX0_openedCount_21 : decode cX0_openedCount 21 = .ok (.goto 4, 3) := by decide +kernel
theorem dX0_openedCount_24 : decode cX0_openedCount 24 = .ok (.iconst 0, 1) := by decide +kernel
theorem dX0_openedCount_25 : decode cX0_openedCount 25 = .ok (.iadd, 1) := by decide +kernel
theorem dX0_openedCount_26 : decode cX0_openedCount 26 = .ok (.istore_n 1, 1) := by decide +kernel
theorem dX0_openedCount_27 : decode cX0_openedCount 27 = .ok (.iinc 2 1, 3) := by decide +kernel
theorem dX0_openedCount_30 : decode cX0_openedCount 30 = .ok (.goto (-26), 3) := by decide +kernel
theorem dX0_openedCount_33 : decode cX0_openedCount 33 = .ok (.iload_n 1, 1) := by decide +kernel
theorem dX0_openedCount_34 : decode cX0_openedCount 34 = .ok (.ireturn, 1) := by decide +kernel
theorem dX0_rootCount_0 : decode cX0_rootCount 0 = .ok (.iconst 0, 1) := by decide +kernel
theorem dX0_rootCount_1 : decode cX0_rootCount 1 = .ok (.istore_n 1, 1) := by decide +kernel
theorem dX0_rootCount_2 : decode cX0_rootCount 2 = .ok (.iconst 0, 1) := by decide +kernel
theorem dX0_rootCount_3 : decode cX0_rootCount 3 = .ok (.istore_n 2, 1) := by decide +kernel
theorem dX0_rootCount_4 : decode cX0_rootCount 4 = .ok (.iload_n 2, 1) := by decide +kernel
theorem dX0_rootCount_5 : decode cX0_rootCount 5 = .ok (.bipush 64, 2) := by decide +kernel
theorem dX0_rootCount_7 : decode cX0_rootCount 7 = .ok (.if_icmp .ge 26, 3) := by decide +kernel
theorem dX0_rootCount_10 : decode cX0_rootCount 10 = .ok (.iload_n 1, 1) := by decide +kernel
theorem dX0_rootCount_11 : decode cX0_rootCount 11 = .ok (.aload_n 0, 1) := by decide +kernel
theorem dX0_rootCount_12 : decode cX0_rootCount 12 = .ok (.getfield 18, 3) := by decide +kernel
theorem dX0_rootCount_15 : decode cX0_rootCount 15 = .ok (.iload_n 2, 1) := by decide +kernel
theorem dX0_rootCount_16 : decode cX0_rootCount 16 = .ok (.iaload, 1) := by decide +kernel
theorem dX0_rootCount_17 : decode cX0_rootCount 17 = .ok (.ifCond .le 7, 3) := by decide +kernel
theorem dX0_rootCount_20 : decode cX0_rootCount 20 = .ok (.iconst 1, 1) := by decide +kernel
theorem dX0_rootCount_21 : decode cX0_rootCount 21 = .ok (.goto 4, 3) := by decide +kernel
theorem dX0_rootCount_24 : decode cX0_rootCount 24 = .ok (.iconst 0, 1) := by decide +kernel
theorem dX0_rootCount_25 : decode cX0_rootCount 25 = .ok (.iadd, 1) := by decide +kernel
theorem dX0_rootCount_26 : decode cX0_rootCount 26 = .ok (.istore_n 1, 1) := by decide +kernel
theorem dX0_rootCount_27 : decode cX0_rootCount 27 = .ok (.iinc 2 1, 3) := by decide +kernel
theorem dX0_rootCount_30 : decode cX0_rootCount 30 = .ok (.goto (-26), 3) := by decide +kernel
theorem dX0_rootCount_33 : decode cX0_rootCount 33 = .ok (.iload_n 1, 1) := by decide +kernel
theorem dX0_rootCount_34 : decode cX0_rootCount 34 = .ok (.ireturn, 1) := by decide +kernel
theorem dX0_trapCount_0 : decode cX0_trapCount 0 = .ok (.iconst 0, 1) := by decide +kernel
theorem dX0_trapCount_1 : decode cX0_trapCount 1 = .ok (.istore_n 1, 1) := by decide +kernel
theorem dX0_trapCount_2 : decode cX0_trapCount 2 = .ok (.iconst 0, 1) := by decide +kernel
theorem dX0_trapCount_3 : decode cX0_trapCount 3 = .ok (.istore_n 2, 1) := by decide +kernel
theorem dX0_trapCount_4 : decode cX0_trapCount 4 = .ok (.iload_n 2, 1) := by decide +kernel
theorem dX0_trapCount_5 : decode cX0_trapCount 5 = .ok (.bipush 64, 2) := by decide +kernel
theorem dX0_trapCount_7 : decode cX0_trapCount 7 = .ok (.if_icmp .ge 27, 3) := by decide +kernel
theorem dX0_trapCount_10 : decode cX0_trapCount 10 = .ok (.iload_n 1, 1) := by decide +kernel
theorem dX0_trapCount_11 : decode cX0_trapCount 11 = .ok (.aload_n 0, 1) := by decide +kernel
theorem dX0_trapCount_12 : decode cX0_trapCount 12 = .ok (.getfield 22, 3) := by decide +kernel
theorem dX0_trapCount_15 : decode cX0_trapCount 15 = .ok (.iload_n 2, 1) := by decide +kernel
theorem dX0_trapCount_16 : decode cX0_trapCount 16 = .ok (.iaload, 1) := by decide +kernel
theorem dX0_trapCount_17 : decode cX0_trapCount 17 = .ok (.iconst (-1), 1) := by decide +kernel
theorem dX0_trapCount_18 : decode cX0_trapCount 18 = .ok (.if_icmp .eq 7, 3) := by decide +kernel
theorem dX0_trapCount_21 : decode cX0_trapCount 21 = .ok (.iconst 1, 1) := by decide +kernel
theorem dX0_trapCount_22 : decode cX0_trapCount 22 = .ok (.goto 4, 3) := by decide +kernel
theorem dX0_trapCount_25 : decode cX0_trapCount 25 = .ok (.iconst 0, 1) := by decide +kernel
theorem dX0_trapCount_26 : decode cX0_trapCount 26 = .ok (.iadd, 1) := by decide +kernel
theorem dX0_trapCount_27 : decode cX0_trapCount 27 = .ok (.istore_n 1, 1) := by decide +kernel
theorem dX0_trapCount_28 : decode cX0_trapCount 28 = .ok (.iinc 2 1, 3) := by decide +kernel
theorem dX0_trapCount_31 : decode cX0_trapCount 31 = .ok (.goto (-27), 3) := by decide +kernel
theorem dX0_trapCount_34 : decode cX0_trapCount 34 = .ok (.iload_n 1, 1) := by decide +kernel
theorem dX0_trapCount_35 : decode cX0_trapCount 35 = .ok (.ireturn, 1) := by decide +kernel
theorem lg_wsX0_molesAt_0 : GoodIn wsX0_molesAt ([.fieldLink RX0 56 "MolesLawn$Lawn" "moleCount" "I", .fieldLink RX0 34 "MolesLawn$Lawn" "moles" "[LMolesLawn$Mole;", .methodLink RX0 77 yX1_place, .instanceMethod yX1_place, .selects RX1 yX1_place yX1_place, .initialized RX1, .code yX1_place cX1_place 1 (some .int), .fieldLink RX1 15 "MolesLawn$Mole" "trail" "[I", .fieldLink RX1 18 "MolesLawn$Mole" "trailLength" "I"] : List Cond) := goodIn_sub (fun _ h => (List.mem_cons_of_mem _ (List.mem_append_left _ (List.mem_append_left _ h)))) (by decide +kernel)
theorem ls_wsX0_molesAt_0 : GoodIn wsX0_molesAt wsX00 := goodIn_sub (fun _ h => (List.mem_cons_of_mem _ (List.mem_append_left _ (List.mem_append_right _ h)))) (by decide +kernel)
theorem ls_wsX0_molesAt_1 : GoodIn wsX0_molesAt wsX10 := goodIn_sub (fun _ h => (List.mem_cons_of_mem _ (List.mem_append_right _ h))) (by decide +kernel)
set_option maxRecDepth 20000 in
theorem ggX0_molesAt_X1_place : GoodIn wsX0_molesAt wsX1_place := (gi_cons (lg_wsX0_molesAt_0 _ (List.mem_of_getElem? (i := 6) rfl)) (goodIn_app (gi_cons (lg_wsX0_molesAt_0 _ (List.mem_of_getElem? (i := 7) rfl)) (gi_cons (lg_wsX0_molesAt_0 _ (List.mem_of_getElem? (i := 8) rfl)) gi_nil)) ls_wsX0_molesAt_1))
set_option maxRecDepth 20000 in
theorem gX0_molesAt_X1_place : GoodIn wsX0_molesAt (wsV RX0 77 RX1 yX1_place wsX1_place) := goodIn_app (gi_cons (lg_wsX0_molesAt_0 _ (List.mem_of_getElem? (i := 2) rfl)) (gi_cons (lg_wsX0_molesAt_0 _ (List.mem_of_getElem? (i := 3) rfl)) (gi_cons (lg_wsX0_molesAt_0 _ (List.mem_of_getElem? (i := 4) rfl)) (gi_cons (lg_wsX0_molesAt_0 _ (List.mem_of_getElem? (i := 5) rfl)) gi_nil)))) ggX0_molesAt_X1_place
theorem dX0_molesAt_0 : decode cX0_molesAt 0 = .ok (.iconst 0, 1) := by decide +kernel
theorem dX0_molesAt_1 : decode cX0_molesAt 1 = .ok (.istore_n 2, 1) := by decide +kernel
theorem dX0_molesAt_2 : decode cX0_molesAt 2 = .ok (.iconst 0, 1) := by decide +kernel
theorem dX0_molesAt_3 : decode cX0_molesAt 3 = .ok (.istore_n 3, 1) := by decide +kernel
theorem dX0_molesAt_4 : decode cX0_molesAt 4 = .ok (.iload_n 3, 1) := by decide +kernel
theorem dX0_molesAt_5 : decode cX0_molesAt 5 = .ok (.aload_n 0, 1) := by decide +kernel
theorem dX0_molesAt_6 : decode cX0_molesAt 6 = .ok (.getfield 56, 3) := by decide +kernel
theorem dX0_molesAt_9 : decode cX0_molesAt 9 = .ok (.if_icmp .ge 30, 3) := by decide +kernel
theorem dX0_molesAt_12 : decode cX0_molesAt 12 = .ok (.iload_n 2, 1) := by decide +kernel
theorem dX0_molesAt_13 : decode cX0_molesAt 13 = .ok (.aload_n 0, 1) := by decide +kernel
theorem dX0_molesAt_14 : decode cX0_molesAt 14 = .ok (.getfield 34, 3) := by decide +kernel
theorem dX0_molesAt_17 : decode cX0_molesAt 17 = .ok (.iload_n 3, 1) := by decide +kernel
theorem dX0_molesAt_18 : decode cX0_molesAt 18 = .ok (.aaload, 1) := by decide +kernel
theorem dX0_molesAt_19 : decode cX0_molesAt 19 = .ok (.invokevirtual 77, 3) := by decide +kernel
theorem dX0_molesAt_22 : decode cX0_molesAt 22 = .ok (.iload_n 1, 1) := by decide +kernel
theorem dX0_molesAt_23 : decode cX0_molesAt 23 = .ok (.if_icmp .ne 7, 3) := by decide +kernel
theorem dX0_molesAt_26 : decode cX0_molesAt 26 = .ok (.iconst 1, 1) := by decide +kernel
theorem dX0_molesAt_27 : decode cX0_molesAt 27 = .ok (.goto 4, 3) := by decide +kernel
theorem dX0_molesAt_30 : decode cX0_molesAt 30 = .ok (.iconst 0, 1) := by decide +kernel
theorem dX0_molesAt_31 : decode cX0_molesAt 31 = .ok (.iadd, 1) := by decide +kernel
theorem dX0_molesAt_32 : decode cX0_molesAt 32 = .ok (.istore_n 2, 1) := by decide +kernel
theorem dX0_molesAt_33 : decode cX0_molesAt 33 = .ok (.iinc 3 1, 3) := by decide +kernel
theorem dX0_molesAt_36 : decode cX0_molesAt 36 = .ok (.goto (-32), 3) := by decide +kernel
theorem dX0_molesAt_39 : decode cX0_molesAt 39 = .ok (.iload_n 2, 1) := by decide +kernel
theorem dX0_molesAt_40 : decode cX0_molesAt 40 = .ok (.ireturn, 1) := by decide +kernel
theorem dX0_trailBeginsAt_0 : decode cX0_trailBeginsAt 0 = .ok (.iconst 0, 1) := by decide +kernel
theorem dX0_trailBeginsAt_1 : decode cX0_trailBeginsAt 1 = .ok (.istore_n 2, 1) := by decide +kernel
theorem dX0_trailBeginsAt_2 : decode cX0_trailBeginsAt 2 = .ok (.iload_n 2, 1) := by decide +kernel
theorem dX0_trailBeginsAt_3 : decode cX0_trailBeginsAt 3 = .ok (.aload_n 0, 1) := by decide +kernel
theorem dX0_trailBeginsAt_4 : decode cX0_trailBeginsAt 4 = .ok (.getfield 56, 3) := by decide +kernel
theorem dX0_trailBeginsAt_7 : decode cX0_trailBeginsAt 7 = .ok (.if_icmp .ge 26, 3) := by decide +kernel
theorem dX0_trailBeginsAt_10 : decode cX0_trailBeginsAt 10 = .ok (.aload_n 0, 1) := by decide +kernel
theorem dX0_trailBeginsAt_11 : decode cX0_trailBeginsAt 11 = .ok (.getfield 34, 3) := by decide +kernel
theorem dX0_trailBeginsAt_14 : decode cX0_trailBeginsAt 14 = .ok (.iload_n 2, 1) := by decide +kernel
theorem dX0_trailBeginsAt_15 : decode cX0_trailBeginsAt 15 = .ok (.aaload, 1) := by decide +kernel
theorem dX0_trailBeginsAt_16 : decode cX0_trailBeginsAt 16 = .ok (.getfield 81, 3) := by decide +kernel
theorem dX0_trailBeginsAt_19 : decode cX0_trailBeginsAt 19 = .ok (.iconst 0, 1) := by decide +kernel
theorem dX0_trailBeginsAt_20 : decode cX0_trailBeginsAt 20 = .ok (.iaload, 1) := by decide +kernel
theorem dX0_trailBeginsAt_21 : decode cX0_trailBeginsAt 21 = .ok (.iload_n 1, 1) := by decide +kernel
theorem dX0_trailBeginsAt_22 : decode cX0_trailBeginsAt 22 = .ok (.if_icmp .ne 5, 3) := by decide +kernel
theorem dX0_trailBeginsAt_25 : decode cX0_trailBeginsAt 25 = .ok (.iconst 1, 1) := by decide +kernel
theorem dX0_trailBeginsAt_26 : decode cX0_trailBeginsAt 26 = .ok (.ireturn, 1) := by decide +kernel
theorem dX0_trailBeginsAt_27 : decode cX0_trailBeginsAt 27 = .ok (.iinc 2 1, 3) := by decide +kernel
theorem dX0_trailBeginsAt_30 : decode cX0_trailBeginsAt 30 = .ok (.goto (-28), 3) := by decide +kernel
theorem dX0_trailBeginsAt_33 : decode cX0_trailBeginsAt 33 = .ok (.iconst 0, 1) := by decide +kernel
theorem dX0_trailBeginsAt_34 : decode cX0_trailBeginsAt 34 = .ok (.ireturn, 1) := by decide +kernel
theorem dX0_hasPlans_0 : decode cX0_hasPlans 0 = .ok (.iconst 0, 1) := by decide +kernel
theorem dX0_hasPlans_1 : decode cX0_hasPlans 1 = .ok (.istore_n 1, 1) := by decide +kernel
theorem dX0_hasPlans_2 : decode cX0_hasPlans 2 = .ok (.iload_n 1, 1) := by decide +kernel
theorem dX0_hasPlans_3 : decode cX0_hasPlans 3 = .ok (.aload_n 0, 1) := by decide +kernel
theorem dX0_hasPlans_4 : decode cX0_hasPlans 4 = .ok (.getfield 56, 3) := by decide +kernel
theorem dX0_hasPlans_7 : decode cX0_hasPlans 7 = .ok (.if_icmp .ge 23, 3) := by decide +kernel
theorem dX0_hasPlans_10 : decode cX0_hasPlans 10 = .ok (.aload_n 0, 1) := by decide +kernel
theorem dX0_hasPlans_11 : decode cX0_hasPlans 11 = .ok (.getfield 34, 3) := by decide +kernel
theorem dX0_hasPlans_14 : decode cX0_hasPlans 14 = .ok (.iload_n 1, 1) := by decide +kernel
theorem dX0_hasPlans_15 : decode cX0_hasPlans 15 = .ok (.aaload, 1) := by decide +kernel
theorem dX0_hasPlans_16 : decode cX0_hasPlans 16 = .ok (.getfield 84, 3) := by decide +kernel
theorem dX0_hasPlans_19 : decode cX0_hasPlans 19 = .ok (.ifCond .le 5, 3) := by decide +kernel
theorem dX0_hasPlans_22 : decode cX0_hasPlans 22 = .ok (.iconst 1, 1) := by decide +kernel
theorem dX0_hasPlans_23 : decode cX0_hasPlans 23 = .ok (.ireturn, 1) := by decide +kernel
theorem dX0_hasPlans_24 : decode cX0_hasPlans 24 = .ok (.iinc 1 1, 3) := by decide +kernel
theorem dX0_hasPlans_27 : decode cX0_hasPlans 27 = .ok (.goto (-25), 3) := by decide +kernel
theorem dX0_hasPlans_30 : decode cX0_hasPlans 30 = .ok (.iconst 0, 1) := by decide +kernel
theorem dX0_hasPlans_31 : decode cX0_hasPlans 31 = .ok (.ireturn, 1) := by decide +kernel
theorem dX0_setFullAir_0 : decode cX0_setFullAir 0 = .ok (.aload_n 0, 1) := by decide +kernel
theorem dX0_setFullAir_1 : decode cX0_setFullAir 1 = .ok (.iload_n 1, 1) := by decide +kernel
theorem dX0_setFullAir_2 : decode cX0_setFullAir 2 = .ok (.putfield 38, 3) := by decide +kernel
theorem dX0_setFullAir_5 : decode cX0_setFullAir 5 = .ok (.iconst 0, 1) := by decide +kernel
theorem dX0_setFullAir_6 : decode cX0_setFullAir 6 = .ok (.istore_n 2, 1) := by decide +kernel
theorem dX0_setFullAir_7 : decode cX0_setFullAir 7 = .ok (.iload_n 2, 1) := by decide +kernel
theorem dX0_setFullAir_8 : decode cX0_setFullAir 8 = .ok (.aload_n 0, 1) := by decide +kernel
theorem dX0_setFullAir_9 : decode cX0_setFullAir 9 = .ok (.getfield 56, 3) := by decide +kernel
theorem dX0_setFullAir_12 : decode cX0_setFullAir 12 = .ok (.if_icmp .ge 31, 3) := by decide +kernel
theorem dX0_setFullAir_15 : decode cX0_setFullAir 15 = .ok (.aload_n 0, 1) := by decide +kernel
theorem dX0_setFullAir_16 : decode cX0_setFullAir 16 = .ok (.getfield 34, 3) := by decide +kernel
theorem dX0_setFullAir_19 : decode cX0_setFullAir 19 = .ok (.iload_n 2, 1) := by decide +kernel
theorem dX0_setFullAir_20 : decode cX0_setFullAir 20 = .ok (.aaload, 1) := by decide +kernel
theorem dX0_setFullAir_21 : decode cX0_setFullAir 21 = .ok (.aload_n 0, 1) := by decide +kernel
theorem dX0_setFullAir_22 : decode cX0_setFullAir 22 = .ok (.getfield 34, 3) := by decide +kernel
theorem dX0_setFullAir_25 : decode cX0_setFullAir 25 = .ok (.iload_n 2, 1) := by decide +kernel
theorem dX0_setFullAir_26 : decode cX0_setFullAir 26 = .ok (.aaload, 1) := by decide +kernel
theorem dX0_setFullAir_27 : decode cX0_setFullAir 27 = .ok (.getfield 87, 3) := by decide +kernel
theorem dX0_setFullAir_30 : decode cX0_setFullAir 30 = .ok (.iload_n 1, 1) := by decide +kernel
theorem dX0_setFullAir_31 : decode cX0_setFullAir 31 = .ok (.invokestatic 90, 3) := by decide +kernel
theorem dX0_setFullAir_34 : decode cX0_setFullAir 34 = .ok (.putfield 87, 3) := by decide +kernel
theorem dX0_setFullAir_37 : decode cX0_setFullAir 37 = .ok (.iinc 2 1, 3) := by decide +kernel
theorem dX0_setFullAir_40 : decode cX0_setFullAir 40 = .ok (.goto (-33), 3) := by decide +kernel
theorem dX0_setFullAir_43 : decode cX0_setFullAir 43 = .ok (.return_, 1) := by decide +kernel
theorem lg_wsX0_welcome_0 : GoodIn wsX0_welcome wsX0_welcome_r1 := goodIn_sub (fun _ h => (List.mem_cons_of_mem _ (List.mem_append_left _ (List.mem_append_left _ (List.mem_append_left _ (List.mem_append_left _ h)))))) (by decide +kernel)
theorem lg_wsX0_welcome_1 : GoodIn wsX0_welcome wsX0_welcome_r2 := goodIn_sub (fun _ h => (List.mem_cons_of_mem _ (List.mem_append_left _ (List.mem_append_left _ (List.mem_append_left _ (List.mem_append_right _ (List.mem_append_left _ h))))))) (by decide +kernel)
theorem lg_wsX0_welcome_2 : GoodIn wsX0_welcome wsX0_welcome_r3 := goodIn_sub (fun _ h => (List.mem_cons_of_mem _ (List.mem_append_left _ (List.mem_append_left _ (List.mem_append_left _ (List.mem_append_right _ (List.mem_append_right _ (List.mem_append_left _ h)))))))) (by decide +kernel)
theorem lg_wsX0_welcome_3 : GoodIn wsX0_welcome wsX0_welcome_r4 := goodIn_sub (fun _ h => (List.mem_cons_of_mem _ (List.mem_append_left _ (List.mem_append_left _ (List.mem_append_left _ (List.mem_append_right _ (List.mem_append_right _ (List.mem_append_right _ h)))))))) (by decide +kernel)
theorem ls_wsX0_welcome_0 : GoodIn wsX0_welcome wsX00 := goodIn_sub (fun _ h => (List.mem_cons_of_mem _ (List.mem_append_left _ (List.mem_append_left _ (List.mem_append_right _ h))))) (by decide +kernel)
theorem ls_wsX0_welcome_1 : GoodIn wsX0_welcome wsX10 := goodIn_sub (fun _ h => (List.mem_cons_of_mem _ (List.mem_append_left _ (List.mem_append_right _ h)))) (by decide +kernel)
theorem ls_wsX0_welcome_2 : GoodIn wsX0_welcome wsX30 := goodIn_sub (fun _ h => (List.mem_cons_of_mem _ (List.mem_append_right _ h))) (by decide +kernel)
set_option maxRecDepth 20000 in
theorem ggX0_welcome_X0_ensureMound : GoodIn wsX0_welcome wsX0_ensureMound := (gi_cons (lg_wsX0_welcome_0 _ (List.mem_of_getElem? (i := 10) rfl)) (goodIn_app (goodIn_app (goodIn_app (goodIn_app (gi_cons (lg_wsX0_welcome_0 _ (List.mem_of_getElem? (i := 11) rfl)) (gi_cons (lg_wsX0_welcome_0 _ (List.mem_of_getElem? (i := 12) rfl)) (gi_cons (lg_wsX0_welcome_0 _ (List.mem_of_getElem? (i := 0) rfl)) (gi_cons (lg_wsX0_welcome_0 _ (List.mem_of_getElem? (i := 1) rfl)) (gi_cons (lg_wsX0_welcome_0 _ (List.mem_of_getElem? (i := 13) rfl)) (gi_cons (lg_wsX0_welcome_0 _ (List.mem_of_getElem? (i := 14) rfl)) (gi_cons (lg_wsX0_welcome_0 _ (List.mem_of_getElem? (i := 15) rfl)) (gi_cons (lg_wsX0_welcome_0 _ (List.mem_of_getElem? (i := 16) rfl)) (gi_cons (lg_wsX0_welcome_0 _ (List.mem_of_getElem? (i := 17) rfl)) (gi_cons (lg_wsX0_welcome_0 _ (List.mem_of_getElem? (i := 9) rfl)) (gi_cons (lg_wsX0_welcome_0 _ (List.mem_of_getElem? (i := 18) rfl)) (gi_cons (lg_wsX0_welcome_0 _ (List.mem_of_getElem? (i := 19) rfl)) (gi_cons (lg_wsX0_welcome_0 _ (List.mem_of_getElem? (i := 20) rfl)) (gi_cons (lg_wsX0_welcome_0 _ (List.mem_of_getElem? (i := 21) rfl)) (gi_cons (lg_wsX0_welcome_0 _ (List.mem_of_getElem? (i := 22) rfl)) (gi_cons (lg_wsX0_welcome_0 _ (List.mem_of_getElem? (i := 23) rfl)) (gi_cons (lg_wsX0_welcome_1 _ (List.mem_of_getElem? (i := 0) rfl)) (gi_cons (lg_wsX0_welcome_1 _ (List.mem_of_getElem? (i := 1) rfl)) (gi_cons (lg_wsX0_welcome_1 _ (List.mem_of_getElem? (i := 2) rfl)) (gi_cons (lg_wsX0_welcome_1 _ (List.mem_of_getElem? (i := 3) rfl)) (gi_cons (lg_wsX0_welcome_1 _ (List.mem_of_getElem? (i := 4) rfl)) (gi_cons (lg_wsX0_welcome_1 _ (List.mem_of_getElem? (i := 5) rfl)) (gi_cons (lg_wsX0_welcome_1 _ (List.mem_of_getElem? (i := 6) rfl)) (gi_cons (lg_wsX0_welcome_1 _ (List.mem_of_getElem? (i := 7) rfl)) gi_nil)))))))))))))))))))))))) (goodIn_app (gi_cons (lg_wsX0_welcome_1 _ (List.mem_of_getElem? (i := 8) rfl)) (gi_cons (lg_wsX0_welcome_1 _ (List.mem_of_getElem? (i := 9) rfl)) (gi_cons (lg_wsX0_welcome_1 _ (List.mem_of_getElem? (i := 10) rfl)) (gi_cons (lg_wsX0_welcome_1 _ (List.mem_of_getElem? (i := 11) rfl)) (gi_cons (lg_wsX0_welcome_1 _ (List.mem_of_getElem? (i := 12) rfl)) (gi_cons (lg_wsX0_welcome_1 _ (List.mem_of_getElem? (i := 13) rfl)) (gi_cons (lg_wsX0_welcome_1 _ (List.mem_of_getElem? (i := 14) rfl)) (gi_cons (lg_wsX0_welcome_1 _ (List.mem_of_getElem? (i := 15) rfl)) (gi_cons (lg_wsX0_welcome_1 _ (List.mem_of_getElem? (i := 16) rfl)) (gi_cons (lg_wsX0_welcome_1 _ (List.mem_of_getElem? (i := 17) rfl)) (gi_cons (lg_wsX0_welcome_1 _ (List.mem_of_getElem? (i := 18) rfl)) (gi_cons (lg_wsX0_welcome_1 _ (List.mem_of_getElem? (i := 19) rfl)) (gi_cons (lg_wsX0_welcome_1 _ (List.mem_of_getElem? (i := 20) rfl)) (gi_cons (lg_wsX0_welcome_1 _ (List.mem_of_getElem? (i := 21) rfl)) (gi_cons (lg_wsX0_welcome_1 _ (List.mem_of_getElem? (i := 22) rfl)) (gi_cons (lg_wsX0_welcome_1 _ (List.mem_of_getElem? (i := 23) rfl)) (gi_cons (lg_wsX0_welcome_2 _ (List.mem_of_getElem? (i := 0) rfl)) (gi_cons (lg_wsX0_welcome_2 _ (List.mem_of_getElem? (i := 1) rfl)) (gi_cons (lg_wsX0_welcome_2 _ (List.mem_of_getElem? (i := 2) rfl)) (gi_cons (lg_wsX0_welcome_2 _ (List.mem_of_getElem? (i := 3) rfl)) (gi_cons (lg_wsX0_welcome_2 _ (List.mem_of_getElem? (i := 4) rfl)) (gi_cons (lg_wsX0_welcome_2 _ (List.mem_of_getElem? (i := 5) rfl)) (gi_cons (lg_wsX0_welcome_2 _ (List.mem_of_getElem? (i := 6) rfl)) (gi_cons (lg_wsX0_welcome_2 _ (List.mem_of_getElem? (i := 7) rfl)) gi_nil)))))))))))))))))))))))) (gi_cons (lg_wsX0_welcome_2 _ (List.mem_of_getElem? (i := 8) rfl)) (gi_cons (lg_wsX0_welcome_2 _ (List.mem_of_getElem? (i := 9) rfl)) (gi_cons (lg_wsX0_welcome_2 _ (List.mem_of_getElem? (i := 10) rfl)) (gi_cons (lg_wsX0_welcome_2 _ (List.mem_of_getElem? (i := 11) rfl)) (gi_cons (lg_wsX0_welcome_2 _ (List.mem_of_getElem? (i := 12) rfl)) (gi_cons (lg_wsX0_welcome_2 _ (List.mem_of_getElem? (i := 13) rfl)) (gi_cons (lg_wsX0_welcome_2 _ (List.mem_of_getElem? (i := 14) rfl)) (gi_cons (lg_wsX0_welcome_2 _ (List.mem_of_getElem? (i := 15) rfl)) (gi_cons (lg_wsX0_welcome_2 _ (List.mem_of_getElem? (i := 16) rfl)) (gi_cons (lg_wsX0_welcome_2 _ (List.mem_of_getElem? (i := 17) rfl)) (gi_cons (lg_wsX0_welcome_2 _ (List.mem_of_getElem? (i := 18) rfl)) (gi_cons (lg_wsX0_welcome_2 _ (List.mem_of_getElem? (i := 19) rfl)) (gi_cons (lg_wsX0_welcome_2 _ (List.mem_of_getElem? (i := 20) rfl)) (gi_cons (lg_wsX0_welcome_2 _ (List.mem_of_getElem? (i := 21) rfl)) (gi_cons (lg_wsX0_welcome_2 _ (List.mem_of_getElem? (i := 22) rfl)) (gi_cons (lg_wsX0_welcome_2 _ (List.mem_of_getElem? (i := 23) rfl)) gi_nil)))))))))))))))))) ls_wsX0_welcome_0) ls_wsX0_welcome_1) ls_wsX0_welcome_2))
set_option maxRecDepth 20000 in
theorem gX0_welcome_X0_ensureMound : GoodIn wsX0_welcome (wsV RX0 96 RX0 yX0_ensureMound wsX0_ensureMound) := goodIn_app (gi_cons (lg_wsX0_welcome_0 _ (List.mem_of_getElem? (i := 6) rfl)) (gi_cons (lg_wsX0_welcome_0 _ (List.mem_of_getElem? (i := 7) rfl)) (gi_cons (lg_wsX0_welcome_0 _ (List.mem_of_getElem? (i := 8) rfl)) (gi_cons (lg_wsX0_welcome_0 _ (List.mem_of_getElem? (i := 9) rfl)) gi_nil)))) ggX0_welcome_X0_ensureMound
set_option maxRecDepth 20000 in
theorem ggX0_welcome_X1_beginTrail : GoodIn wsX0_welcome wsX1_beginTrail := (gi_cons (lg_wsX0_welcome_3 _ (List.mem_of_getElem? (i := 3) rfl)) (goodIn_app (gi_cons (lg_wsX0_welcome_2 _ (List.mem_of_getElem? (i := 19) rfl)) (gi_cons (lg_wsX0_welcome_2 _ (List.mem_of_getElem? (i := 18) rfl)) gi_nil)) ls_wsX0_welcome_1))
set_option maxRecDepth 20000 in
theorem gX0_welcome_X1_beginTrail : GoodIn wsX0_welcome (wsV RX0 100 RX1 yX1_beginTrail wsX1_beginTrail) := goodIn_app (gi_cons (lg_wsX0_welcome_3 _ (List.mem_of_getElem? (i := 0) rfl)) (gi_cons (lg_wsX0_welcome_3 _ (List.mem_of_getElem? (i := 1) rfl)) (gi_cons (lg_wsX0_welcome_3 _ (List.mem_of_getElem? (i := 2) rfl)) (gi_cons (lg_wsX0_welcome_2 _ (List.mem_of_getElem? (i := 16) rfl)) gi_nil)))) ggX0_welcome_X1_beginTrail
theorem dX0_welcome_0 : decode cX0_welcome 0 = .ok (.aload_n 0, 1) := by decide +kernel
theorem dX0_welcome_1 : decode cX0_welcome 1 = .ok (.getfield 56, 3) := by decide +kernel
theorem dX0_welcome_4 : decode cX0_welcome 4 = .ok (.iconst 4, 1) := by decide +kernel
theorem dX0_welcome_5 : decode cX0_welcome 5 = .ok (.if_icmp .lt 5, 3) := by decide +kernel
theorem dX0_welcome_8 : decode cX0_welcome 8 = .ok (.iconst (-1), 1) := by decide +kernel
theorem dX0_welcome_9 : decode cX0_welcome 9 = .ok (.ireturn, 1) := by decide +kernel
theorem dX0_welcome_10 : decode cX0_welcome 10 = .ok (.aload_n 0, 1) := by decide +kernel
theorem dX0_welcome_11 : decode cX0_welcome 11 = .ok (.iload_n 1, 1) := by decide +kernel
theorem dX0_welcome_12 : decode cX0_welcome 12 = .ok (.invokevirtual 96, 3) := by decide +kernel
theorem dX0_welcome_15 : decode cX0_welcome 15 = .ok (.aload_n 0, 1) := by decide +kernel
theorem dX0_welcome_16 : decode cX0_welcome 16 = .ok (.getfield 34, 3) := by decide +kernel
theorem dX0_welcome_19 : decode cX0_welcome 19 = .ok (.aload_n 0, 1) := by decide +kernel
theorem dX0_welcome_20 : decode cX0_welcome 20 = .ok (.getfield 56, 3) := by decide +kernel
theorem dX0_welcome_23 : decode cX0_welcome 23 = .ok (.aaload, 1) := by decide +kernel
theorem dX0_welcome_24 : decode cX0_welcome 24 = .ok (.astore_n 2, 1) := by decide +kernel
theorem dX0_welcome_25 : decode cX0_welcome 25 = .ok (.aload_n 2, 1) := by decide +kernel
theorem dX0_welcome_26 : decode cX0_welcome 26 = .ok (.iload_n 1, 1) := by decide +kernel
theorem dX0_welcome_27 : decode cX0_welcome 27 = .ok (.invokevirtual 100, 3) := by decide +kernel
theorem dX0_welcome_30 : decode cX0_welcome 30 = .ok (.aload_n 2, 1) := by decide +kernel
theorem dX0_welcome_31 : decode cX0_welcome 31 = .ok (.iconst 0, 1) := by decide +kernel
theorem dX0_welcome_32 : decode cX0_welcome 32 = .ok (.putfield 84, 3) := by decide +kernel
theorem dX0_welcome_35 : decode cX0_welcome 35 = .ok (.aload_n 2, 1) := by decide +kernel
theorem dX0_welcome_36 : decode cX0_welcome 36 = .ok (.aload_n 0, 1) := by decide +kernel
theorem dX0_welcome_37 : decode cX0_welcome 37 = .ok (.getfield 38, 3) := by decide +kernel
theorem dX0_welcome_40 : decode cX0_welcome 40 = .ok (.putfield 87, 3) := by decide +kernel
theorem dX0_welcome_43 : decode cX0_welcome 43 = .ok (.aload_n 2, 1) := by decide +kernel
theorem dX0_welcome_44 : decode cX0_welcome 44 = .ok (.iconst 0, 1) := by decide +kernel
theorem dX0_welcome_45 : decode cX0_welcome 45 = .ok (.putfield 103, 3) := by decide +kernel
theorem dX0_welcome_48 : decode cX0_welcome 48 = .ok (.aload_n 0, 1) := by decide +kernel
theorem dX0_welcome_49 : decode cX0_welcome 49 = .ok (.dup, 1) := by decide +kernel
theorem dX0_welcome_50 : decode cX0_welcome 50 = .ok (.getfield 56, 3) := by decide +kernel
theorem dX0_welcome_53 : decode cX0_welcome 53 = .ok (.iconst 1, 1) := by decide +kernel
theorem dX0_welcome_54 : decode cX0_welcome 54 = .ok (.iadd, 1) := by decide +kernel
theorem dX0_welcome_55 : decode cX0_welcome 55 = .ok (.putfield 56, 3) := by decide +kernel
theorem dX0_welcome_58 : decode cX0_welcome 58 = .ok (.aload_n 0, 1) := by decide +kernel
theorem dX0_welcome_59 : decode cX0_welcome 59 = .ok (.getfield 56, 3) := by decide +kernel
theorem dX0_welcome_62 : decode cX0_welcome 62 = .ok (.iconst 1, 1) := by decide +kernel
theorem dX0_welcome_63 : decode cX0_welcome 63 = .ok (.isub, 1) := by decide +kernel
theorem dX0_welcome_64 : decode cX0_welcome 64 = .ok (.ireturn, 1) := by decide +kernel
theorem lg_wsX0_ensureMound_0 : GoodIn wsX0_ensureMound wsX0_ensureMound_r1 := goodIn_sub (fun _ h => (List.mem_cons_of_mem _ (List.mem_append_left _ (List.mem_append_left _ (List.mem_append_left _ (List.mem_append_left _ h)))))) (by decide +kernel)
theorem lg_wsX0_ensureMound_1 : GoodIn wsX0_ensureMound wsX0_ensureMound_r2 := goodIn_sub (fun _ h => (List.mem_cons_of_mem _ (List.mem_append_left _ (List.mem_append_left _ (List.mem_append_left _ (List.mem_append_right _ (List.mem_append_left _ h))))))) (by decide +kernel)
theorem lg_wsX0_ensureMound_2 : GoodIn wsX0_ensureMound wsX0_ensureMound_r3 := goodIn_sub (fun _ h => (List.mem_cons_of_mem _ (List.mem_append_left _ (List.mem_append_left _ (List.mem_append_left _ (List.mem_append_right _ (List.mem_append_right _ h))))))) (by decide +kernel)
theorem ls_wsX0_ensureMound_0 : GoodIn wsX0_ensureMound wsX00 := goodIn_sub (fun _ h => (List.mem_cons_of_mem _ (List.mem_append_left _ (List.mem_append_left _ (List.mem_append_right _ h))))) (by decide +kernel)
theorem ls_wsX0_ensureMound_1 : GoodIn wsX0_ensureMound wsX10 := goodIn_sub (fun _ h => (List.mem_cons_of_mem _ (List.mem_append_left _ (List.mem_append_right _ h)))) (by decide +kernel)
theorem ls_wsX0_ensureMound_2 : GoodIn wsX0_ensureMound wsX30 := goodIn_sub (fun _ h => (List.mem_cons_of_mem _ (List.mem_append_right _ h))) (by decide +kernel)
set_option maxRecDepth 20000 in
theorem ggX0_ensureMound_X0_splitTunnels : GoodIn wsX0_ensureMound wsX0_splitTunnels := (gi_cons (lg_wsX0_ensureMound_0 _ (List.mem_of_getElem? (i := 10) rfl)) (goodIn_app (goodIn_app (goodIn_app (gi_cons (lg_wsX0_ensureMound_0 _ (List.mem_of_getElem? (i := 11) rfl)) (gi_cons (lg_wsX0_ensureMound_0 _ (List.mem_of_getElem? (i := 4) rfl)) (gi_cons (lg_wsX0_ensureMound_0 _ (List.mem_of_getElem? (i := 12) rfl)) (gi_cons (lg_wsX0_ensureMound_0 _ (List.mem_of_getElem? (i := 13) rfl)) (gi_cons (lg_wsX0_ensureMound_0 _ (List.mem_of_getElem? (i := 14) rfl)) (gi_cons (lg_wsX0_ensureMound_0 _ (List.mem_of_getElem? (i := 15) rfl)) (gi_cons (lg_wsX0_ensureMound_0 _ (List.mem_of_getElem? (i := 16) rfl)) (gi_cons (lg_wsX0_ensureMound_0 _ (List.mem_of_getElem? (i := 17) rfl)) (gi_cons (lg_wsX0_ensureMound_0 _ (List.mem_of_getElem? (i := 18) rfl)) (gi_cons (lg_wsX0_ensureMound_0 _ (List.mem_of_getElem? (i := 19) rfl)) (gi_cons (lg_wsX0_ensureMound_0 _ (List.mem_of_getElem? (i := 20) rfl)) (gi_cons (lg_wsX0_ensureMound_0 _ (List.mem_of_getElem? (i := 21) rfl)) (gi_cons (lg_wsX0_ensureMound_0 _ (List.mem_of_getElem? (i := 22) rfl)) (gi_cons (lg_wsX0_ensureMound_0 _ (List.mem_of_getElem? (i := 23) rfl)) (gi_cons (lg_wsX0_ensureMound_1 _ (List.mem_of_getElem? (i := 0) rfl)) (gi_cons (lg_wsX0_ensureMound_1 _ (List.mem_of_getElem? (i := 1) rfl)) (gi_cons (lg_wsX0_ensureMound_1 _ (List.mem_of_getElem? (i := 2) rfl)) (gi_cons (lg_wsX0_ensureMound_1 _ (List.mem_of_getElem? (i := 3) rfl)) (gi_cons (lg_wsX0_ensureMound_1 _ (List.mem_of_getElem? (i := 4) rfl)) (gi_cons (lg_wsX0_ensureMound_1 _ (List.mem_of_getElem? (i := 5) rfl)) (gi_cons (lg_wsX0_ensureMound_1 _ (List.mem_of_getElem? (i := 6) rfl)) (gi_cons (lg_wsX0_ensureMound_1 _ (List.mem_of_getElem? (i := 7) rfl)) (gi_cons (lg_wsX0_ensureMound_1 _ (List.mem_of_getElem? (i := 8) rfl)) (gi_cons (lg_wsX0_ensureMound_1 _ (List.mem_of_getElem? (i := 9) rfl)) gi_nil)))))))))))))))))))))))) (gi_cons (lg_wsX0_ensureMound_1 _ (List.mem_of_getElem? (i := 10) rfl)) (gi_cons (lg_wsX0_ensureMound_1 _ (List.mem_of_getElem? (i := 11) rfl)) (gi_cons (lg_wsX0_ensureMound_1 _ (List.mem_of_getElem? (i := 12) rfl)) (gi_cons (lg_wsX0_ensureMound_1 _ (List.mem_of_getElem? (i := 13) rfl)) (gi_cons (lg_wsX0_ensureMound_1 _ (List.mem_of_getElem? (i := 14) rfl)) (gi_cons (lg_wsX0_ensureMound_1 _ (List.mem_of_getElem? (i := 15) rfl)) (gi_cons (lg_wsX0_ensureMound_1 _ (List.mem_of_getElem? (i := 16) rfl)) (gi_cons (lg_wsX0_ensureMound_1 _ (List.mem_of_getElem? (i := 17) rfl)) (gi_cons (lg_wsX0_ensureMound_1 _ (List.mem_of_getElem? (i := 18) rfl)) (gi_cons (lg_wsX0_ensureMound_1 _ (List.mem_of_getElem? (i := 19) rfl)) (gi_cons (lg_wsX0_ensureMound_1 _ (List.mem_of_getElem? (i := 20) rfl)) (gi_cons (lg_wsX0_ensureMound_1 _ (List.mem_of_getElem? (i := 21) rfl)) (gi_cons (lg_wsX0_ensureMound_1 _ (List.mem_of_getElem? (i := 22) rfl)) (gi_cons (lg_wsX0_ensureMound_1 _ (List.mem_of_getElem? (i := 23) rfl)) (gi_cons (lg_wsX0_ensureMound_2 _ (List.mem_of_getElem? (i := 0) rfl)) (gi_cons (lg_wsX0_ensureMound_2 _ (List.mem_of_getElem? (i := 1) rfl)) (gi_cons (lg_wsX0_ensureMound_2 _ (List.mem_of_getElem? (i := 2) rfl)) (gi_cons (lg_wsX0_ensureMound_2 _ (List.mem_of_getElem? (i := 3) rfl)) (gi_cons (lg_wsX0_ensureMound_2 _ (List.mem_of_getElem? (i := 4) rfl)) gi_nil)))))))))))))))))))) ls_wsX0_ensureMound_0) ls_wsX0_ensureMound_2))
set_option maxRecDepth 20000 in
theorem gX0_ensureMound_X0_splitTunnels : GoodIn wsX0_ensureMound (wsV RX0 106 RX0 yX0_splitTunnels wsX0_splitTunnels) := goodIn_app (gi_cons (lg_wsX0_ensureMound_0 _ (List.mem_of_getElem? (i := 6) rfl)) (gi_cons (lg_wsX0_ensureMound_0 _ (List.mem_of_getElem? (i := 7) rfl)) (gi_cons (lg_wsX0_ensureMound_0 _ (List.mem_of_getElem? (i := 8) rfl)) (gi_cons (lg_wsX0_ensureMound_0 _ (List.mem_of_getElem? (i := 9) rfl)) gi_nil)))) ggX0_ensureMound_X0_splitTunnels
set_option maxRecDepth 20000 in
theorem ggX0_ensureMound_X1_firstIndex : GoodIn wsX0_ensureMound wsX1_firstIndex := (gi_cons (lg_wsX0_ensureMound_2 _ (List.mem_of_getElem? (i := 9) rfl)) (goodIn_app (gi_cons (lg_wsX0_ensureMound_2 _ (List.mem_of_getElem? (i := 10) rfl)) (gi_cons (lg_wsX0_ensureMound_2 _ (List.mem_of_getElem? (i := 11) rfl)) gi_nil)) ls_wsX0_ensureMound_1))
set_option maxRecDepth 20000 in
theorem gX0_ensureMound_X1_firstIndex : GoodIn wsX0_ensureMound (wsV RX0 109 RX1 yX1_firstIndex wsX1_firstIndex) := goodIn_app (gi_cons (lg_wsX0_ensureMound_2 _ (List.mem_of_getElem? (i := 5) rfl)) (gi_cons (lg_wsX0_ensureMound_2 _ (List.mem_of_getElem? (i := 6) rfl)) (gi_cons (lg_wsX0_ensureMound_2 _ (List.mem_of_getElem? (i := 7) rfl)) (gi_cons (lg_wsX0_ensureMound_2 _ (List.mem_of_getElem? (i := 8) rfl)) gi_nil)))) ggX0_ensureMound_X1_firstIndex
set_option maxRecDepth 20000 in
theorem ggX0_ensureMound_X3_addRow : GoodIn wsX0_ensureMound wsX3_addRow := (gi_cons (lg_wsX0_ensureMound_1 _ (List.mem_of_getElem? (i := 16) rfl)) (goodIn_app (gi_cons (lg_wsX0_ensureMound_0 _ (List.mem_of_getElem? (i := 20) rfl)) (gi_cons (lg_wsX0_ensureMound_1 _ (List.mem_of_getElem? (i := 6) rfl)) (gi_cons (lg_wsX0_ensureMound_1 _ (List.mem_of_getElem? (i := 1) rfl)) (gi_cons (lg_wsX0_ensureMound_0 _ (List.mem_of_getElem? (i := 19) rfl)) (gi_cons (lg_wsX0_ensureMound_1 _ (List.mem_of_getElem? (i := 17) rfl)) (gi_cons (lg_wsX0_ensureMound_1 _ (List.mem_of_getElem? (i := 18) rfl)) (gi_cons (lg_wsX0_ensureMound_1 _ (List.mem_of_getElem? (i := 19) rfl)) (gi_cons (lg_wsX0_ensureMound_1 _ (List.mem_of_getElem? (i := 20) rfl)) gi_nil)))))))) ls_wsX0_ensureMound_2))
set_option maxRecDepth 20000 in
theorem gX0_ensureMound_X3_addRow : GoodIn wsX0_ensureMound (wsV RX0 113 RX3 yX3_addRow wsX3_addRow) := goodIn_app (gi_cons (lg_wsX0_ensureMound_1 _ (List.mem_of_getElem? (i := 13) rfl)) (gi_cons (lg_wsX0_ensureMound_1 _ (List.mem_of_getElem? (i := 14) rfl)) (gi_cons (lg_wsX0_ensureMound_1 _ (List.mem_of_getElem? (i := 15) rfl)) (gi_cons (lg_wsX0_ensureMound_0 _ (List.mem_of_getElem? (i := 17) rfl)) gi_nil)))) ggX0_ensureMound_X3_addRow
set_option maxRecDepth 20000 in
theorem ggX0_ensureMound_X1_dropBeforeLast : GoodIn wsX0_ensureMound wsX1_dropBeforeLast := (gi_cons (lg_wsX0_ensureMound_2 _ (List.mem_of_getElem? (i := 15) rfl)) (goodIn_app (gi_cons (lg_wsX0_ensureMound_2 _ (List.mem_of_getElem? (i := 10) rfl)) (gi_cons (lg_wsX0_ensureMound_2 _ (List.mem_of_getElem? (i := 11) rfl)) gi_nil)) ls_wsX0_ensureMound_1))
set_option maxRecDepth 20000 in
theorem gX0_ensureMound_X1_dropBeforeLast : GoodIn wsX0_ensureMound (wsV RX0 117 RX1 yX1_dropBeforeLast wsX1_dropBeforeLast) := goodIn_app (gi_cons (lg_wsX0_ensureMound_2 _ (List.mem_of_getElem? (i := 12) rfl)) (gi_cons (lg_wsX0_ensureMound_2 _ (List.mem_of_getElem? (i := 13) rfl)) (gi_cons (lg_wsX0_ensureMound_2 _ (List.mem_of_getElem? (i := 14) rfl)) (gi_cons (lg_wsX0_ensureMound_2 _ (List.mem_of_getElem? (i := 8) rfl)) gi_nil)))) ggX0_ensureMound_X1_dropBeforeLast
theorem dX0_ensureMound_0 : decode cX0_ensureMound 0 = .ok (.aload_n 0, 1) := by decide +kernel
theorem dX0_ensureMound_1 : decode cX0_ensureMound 1 = .ok (.getfield 9, 3) := by decide +kernel
theorem dX0_ensureMound_4 : decode cX0_ensureMound 4 = .ok (.iload_n 1, 1) := by decide +kernel
theorem dX0_ensureMound_5 : decode cX0_ensureMound 5 = .ok (.baload, 1) := by decide +kernel
theorem dX0_ensureMound_6 : decode cX0_ensureMound 6 = .ok (.ifCond .eq 4, 3) := by decide +kernel
theorem dX0_ensureMound_9 : decode cX0_ensureMound 9 = .ok (.return_, 1) := by decide +kernel
theorem dX0_ensureMound_10 : decode cX0_ensureMound 10 = .ok (.aload_n 0, 1) := by decide +kernel
theorem dX0_ensureMound_11 : decode cX0_ensureMound 11 = .ok (.getfield 9, 3) := by decide +kernel
theorem dX0_ensureMound_14 : decode cX0_ensureMound 14 = .ok (.iload_n 1, 1) := by decide +kernel
theorem dX0_ensureMound_15 : decode cX0_ensureMound 15 = .ok (.iconst 1, 1) := by decide +kernel
theorem dX0_ensureMound_16 : decode cX0_ensureMound 16 = .ok (.bastore, 1) := by decide +kernel
theorem dX0_ensureMound_17 : decode cX0_ensureMound 17 = .ok (.aload_n 0, 1) := by decide +kernel
theorem dX0_ensureMound_18 : decode cX0_ensureMound 18 = .ok (.dup, 1) := by decide +kernel
theorem dX0_ensureMound_19 : decode cX0_ensureMound 19 = .ok (.getfield 71, 3) := by decide +kernel
theorem dX0_ensureMound_22 : decode cX0_ensureMound 22 = .ok (.iconst 1, 1) := by decide +kernel
theorem dX0_ensureMound_23 : decode cX0_ensureMound 23 = .ok (.iadd, 1) := by decide +kernel
theorem dX0_ensureMound_24 : decode cX0_ensureMound 24 = .ok (.putfield 71, 3) := by decide +kernel
theorem dX0_ensureMound_27 : decode cX0_ensureMound 27 = .ok (.aload_n 0, 1) := by decide +kernel
theorem dX0_ensureMound_28 : decode cX0_ensureMound 28 = .ok (.iload_n 1, 1) := by decide +kernel
theorem dX0_ensureMound_29 : decode cX0_ensureMound 29 = .ok (.invokevirtual 106, 3) := by decide +kernel
theorem dX0_ensureMound_32 : decode cX0_ensureMound 32 = .ok (.iconst 0, 1) := by decide +kernel
theorem dX0_ensureMound_33 : decode cX0_ensureMound 33 = .ok (.istore_n 2, 1) := by decide +kernel
theorem dX0_ensureMound_34 : decode cX0_ensureMound 34 = .ok (.iload_n 2, 1) := by decide +kernel
theorem dX0_ensureMound_35 : decode cX0_ensureMound 35 = .ok (.aload_n 0, 1) := by decide +kernel
theorem dX0_ensureMound_36 : decode cX0_ensureMound 36 = .ok (.getfield 56, 3) := by decide +kernel
theorem dX0_ensureMound_39 : decode cX0_ensureMound 39 = .ok (.if_icmp .ge 49, 3) := by decide +kernel
theorem dX0_ensureMound_42 : decode cX0_ensureMound 42 = .ok (.aload_n 0, 1) := by decide +kernel
theorem dX0_ensureMound_43 : decode cX0_ensureMound 43 = .ok (.getfield 34, 3) := by decide +kernel
theorem dX0_ensureMound_46 : decode cX0_ensureMound 46 = .ok (.iload_n 2, 1) := by decide +kernel
theorem dX0_ensureMound_47 : decode cX0_ensureMound 47 = .ok (.aaload, 1) := by decide +kernel
theorem dX0_ensureMound_48 : decode cX0_ensureMound 48 = .ok (.astore_n 3, 1) := by decide +kernel
theorem dX0_ensureMound_49 : decode cX0_ensureMound 49 = .ok (.aload_n 3, 1) := by decide +kernel
theorem dX0_ensureMound_50 : decode cX0_ensureMound 50 = .ok (.iload_n 1, 1) := by decide +kernel
theorem dX0_ensureMound_51 : decode cX0_ensureMound 51 = .ok (.invokevirtual 109, 3) := by decide +kernel
theorem dX0_ensureMound_54 : decode cX0_ensureMound 54 = .ok (.istore 4, 2) := by decide +kernel
theorem dX0_ensureMound_56 : decode cX0_ensureMound 56 = .ok (.iload 4, 2) := by decide +kernel
theorem dX0_ensureMound_58 : decode cX0_ensureMound 58 = .ok (.ifCond .le 24, 3) := by decide +kernel
theorem dX0_ensureMound_61 : decode cX0_ensureMound 61 = .ok (.aload_n 0, 1) := by decide +kernel
theorem dX0_ensureMound_62 : decode cX0_ensureMound 62 = .ok (.getfield 28, 3) := by decide +kernel
theorem dX0_ensureMound_65 : decode cX0_ensureMound 65 = .ok (.aload_n 3, 1) := by decide +kernel
theorem dX0_ensureMound_66 : decode cX0_ensureMound 66 = .ok (.getfield 81, 3) := by decide +kernel
theorem dX0_ensureMound_69 : decode cX0_ensureMound 69 = .ok (.iconst 0, 1) := by decide +kernel
theorem dX0_ensureMound_70 : decode cX0_ensureMound 70 = .ok (.iload 4, 2) := by decide +kernel
theorem dX0_ensureMound_72 : decode cX0_ensureMound 72 = .ok (.iconst 1, 1) := by decide +kernel
theorem dX0_ensureMound_73 : decode cX0_ensureMound 73 = .ok (.iadd, 1) := by decide +kernel
theorem dX0_ensureMound_74 : decode cX0_ensureMound 74 = .ok (.invokevirtual 113, 3) := by decide +kernel
theorem dX0_ensureMound_77 : decode cX0_ensureMound 77 = .ok (.aload_n 3, 1) := by decide +kernel
theorem dX0_ensureMound_78 : decode cX0_ensureMound 78 = .ok (.iload_n 1, 1) := by decide +kernel
theorem dX0_ensureMound_79 : decode cX0_ensureMound 79 = .ok (.invokevirtual 117, 3) := by decide +kernel
theorem dX0_ensureMound_82 : decode cX0_ensureMound 82 = .ok (.iinc 2 1, 3) := by decide +kernel
theorem dX0_ensureMound_85 : decode cX0_ensureMound 85 = .ok (.goto (-51), 3) := by decide +kernel
theorem dX0_ensureMound_88 : decode cX0_ensureMound 88 = .ok (.return_, 1) := by decide +kernel
theorem lg_wsX0_splitTunnels_0 : GoodIn wsX0_splitTunnels wsX0_splitTunnels_r1 := goodIn_sub (fun _ h => (List.mem_cons_of_mem _ (List.mem_append_left _ (List.mem_append_left _ (List.mem_append_left _ h))))) (by decide +kernel)
theorem lg_wsX0_splitTunnels_1 : GoodIn wsX0_splitTunnels wsX0_splitTunnels_r2 := goodIn_sub (fun _ h => (List.mem_cons_of_mem _ (List.mem_append_left _ (List.mem_append_left _ (List.mem_append_right _ h))))) (by decide +kernel)
theorem ls_wsX0_splitTunnels_0 : GoodIn wsX0_splitTunnels wsX00 := goodIn_sub (fun _ h => (List.mem_cons_of_mem _ (List.mem_append_left _ (List.mem_append_right _ h)))) (by decide +kernel)
theorem ls_wsX0_splitTunnels_1 : GoodIn wsX0_splitTunnels wsX30 := goodIn_sub (fun _ h => (List.mem_cons_of_mem _ (List.mem_append_right _ h))) (by decide +kernel)
set_option maxRecDepth 20000 in
theorem ggX0_splitTunnels_X3_empty : GoodIn wsX0_splitTunnels wsX3_empty := (gi_cons (lg_wsX0_splitTunnels_0 _ (List.mem_of_getElem? (i := 8) rfl)) (goodIn_app (gi_cons (lg_wsX0_splitTunnels_0 _ (List.mem_of_getElem? (i := 9) rfl)) (gi_cons (lg_wsX0_splitTunnels_0 _ (List.mem_of_getElem? (i := 10) rfl)) gi_nil)) ls_wsX0_splitTunnels_1))
set_option maxRecDepth 20000 in
theorem gX0_splitTunnels_X3_empty : GoodIn wsX0_splitTunnels (wsV RX0 120 RX3 yX3_empty wsX3_empty) := goodIn_app (gi_cons (lg_wsX0_splitTunnels_0 _ (List.mem_of_getElem? (i := 4) rfl)) (gi_cons (lg_wsX0_splitTunnels_0 _ (List.mem_of_getElem? (i := 5) rfl)) (gi_cons (lg_wsX0_splitTunnels_0 _ (List.mem_of_getElem? (i := 6) rfl)) (gi_cons (lg_wsX0_splitTunnels_0 _ (List.mem_of_getElem? (i := 7) rfl)) gi_nil)))) ggX0_splitTunnels_X3_empty
set_option maxRecDepth 20000 in
theorem ggX0_splitTunnels_X3_firstIndex : GoodIn wsX0_splitTunnels wsX3_firstIndex := (gi_cons (lg_wsX0_splitTunnels_0 _ (List.mem_of_getElem? (i := 14) rfl)) (goodIn_app (gi_cons (lg_wsX0_splitTunnels_0 _ (List.mem_of_getElem? (i := 15) rfl)) (gi_cons (lg_wsX0_splitTunnels_0 _ (List.mem_of_getElem? (i := 16) rfl)) (gi_cons (lg_wsX0_splitTunnels_0 _ (List.mem_of_getElem? (i := 17) rfl)) (gi_cons (lg_wsX0_splitTunnels_0 _ (List.mem_of_getElem? (i := 18) rfl)) (gi_cons (lg_wsX0_splitTunnels_0 _ (List.mem_of_getElem? (i := 7) rfl)) (gi_cons (lg_wsX0_splitTunnels_0 _ (List.mem_of_getElem? (i := 19) rfl)) (gi_cons (lg_wsX0_splitTunnels_0 _ (List.mem_of_getElem? (i := 10) rfl)) (gi_cons (lg_wsX0_splitTunnels_0 _ (List.mem_of_getElem? (i := 20) rfl)) (gi_cons (lg_wsX0_splitTunnels_0 _ (List.mem_of_getElem? (i := 21) rfl)) (gi_cons (lg_wsX0_splitTunnels_0 _ (List.mem_of_getElem? (i := 22) rfl)) (gi_cons (lg_wsX0_splitTunnels_0 _ (List.mem_of_getElem? (i := 23) rfl)) (gi_cons (lg_wsX0_splitTunnels_1 _ (List.mem_of_getElem? (i := 0) rfl)) gi_nil)))))))))))) ls_wsX0_splitTunnels_1))
set_option maxRecDepth 20000 in
theorem gX0_splitTunnels_X3_firstIndex : GoodIn wsX0_splitTunnels (wsV RX0 126 RX3 yX3_firstIndex wsX3_firstIndex) := goodIn_app (gi_cons (lg_wsX0_splitTunnels_0 _ (List.mem_of_getElem? (i := 11) rfl)) (gi_cons (lg_wsX0_splitTunnels_0 _ (List.mem_of_getElem? (i := 12) rfl)) (gi_cons (lg_wsX0_splitTunnels_0 _ (List.mem_of_getElem? (i := 13) rfl)) (gi_cons (lg_wsX0_splitTunnels_0 _ (List.mem_of_getElem? (i := 7) rfl)) gi_nil)))) ggX0_splitTunnels_X3_firstIndex
set_option maxRecDepth 20000 in
theorem ggX0_splitTunnels_X3_from : GoodIn wsX0_splitTunnels wsX3_from := (gi_cons (lg_wsX0_splitTunnels_1 _ (List.mem_of_getElem? (i := 0) rfl)) (goodIn_app (gi_cons (lg_wsX0_splitTunnels_0 _ (List.mem_of_getElem? (i := 10) rfl)) (gi_cons (lg_wsX0_splitTunnels_0 _ (List.mem_of_getElem? (i := 20) rfl)) gi_nil)) ls_wsX0_splitTunnels_1))
set_option maxRecDepth 20000 in
theorem gX0_splitTunnels_X3_from : GoodIn wsX0_splitTunnels (wsV RX0 131 RX3 yX3_from wsX3_from) := goodIn_app (gi_cons (lg_wsX0_splitTunnels_1 _ (List.mem_of_getElem? (i := 1) rfl)) (gi_cons (lg_wsX0_splitTunnels_0 _ (List.mem_of_getElem? (i := 22) rfl)) (gi_cons (lg_wsX0_splitTunnels_0 _ (List.mem_of_getElem? (i := 23) rfl)) (gi_cons (lg_wsX0_splitTunnels_0 _ (List.mem_of_getElem? (i := 7) rfl)) gi_nil)))) ggX0_splitTunnels_X3_from
set_option maxRecDepth 20000 in
theorem ggX0_splitTunnels_X3_to : GoodIn wsX0_splitTunnels wsX3_to := (gi_cons (lg_wsX0_splitTunnels_0 _ (List.mem_of_getElem? (i := 19) rfl)) (goodIn_app (gi_cons (lg_wsX0_splitTunnels_0 _ (List.mem_of_getElem? (i := 10) rfl)) (gi_cons (lg_wsX0_splitTunnels_0 _ (List.mem_of_getElem? (i := 20) rfl)) gi_nil)) ls_wsX0_splitTunnels_1))
set_option maxRecDepth 20000 in
theorem gX0_splitTunnels_X3_to : GoodIn wsX0_splitTunnels (wsV RX0 134 RX3 yX3_to wsX3_to) := goodIn_app (gi_cons (lg_wsX0_splitTunnels_1 _ (List.mem_of_getElem? (i := 2) rfl)) (gi_cons (lg_wsX0_splitTunnels_0 _ (List.mem_of_getElem? (i := 17) rfl)) (gi_cons (lg_wsX0_splitTunnels_0 _ (List.mem_of_getElem? (i := 18) rfl)) (gi_cons (lg_wsX0_splitTunnels_0 _ (List.mem_of_getElem? (i := 7) rfl)) gi_nil)))) ggX0_splitTunnels_X3_to
set_option maxRecDepth 20000 in
theorem ggX0_splitTunnels_X3_addRow : GoodIn wsX0_splitTunnels wsX3_addRow := (gi_cons (lg_wsX0_splitTunnels_1 _ (List.mem_of_getElem? (i := 6) rfl)) (goodIn_app (gi_cons (lg_wsX0_splitTunnels_0 _ (List.mem_of_getElem? (i := 10) rfl)) (gi_cons (lg_wsX0_splitTunnels_0 _ (List.mem_of_getElem? (i := 20) rfl)) (gi_cons (lg_wsX0_splitTunnels_0 _ (List.mem_of_getElem? (i := 15) rfl)) (gi_cons (lg_wsX0_splitTunnels_0 _ (List.mem_of_getElem? (i := 9) rfl)) (gi_cons (lg_wsX0_splitTunnels_1 _ (List.mem_of_getElem? (i := 7) rfl)) (gi_cons (lg_wsX0_splitTunnels_1 _ (List.mem_of_getElem? (i := 8) rfl)) (gi_cons (lg_wsX0_splitTunnels_1 _ (List.mem_of_getElem? (i := 9) rfl)) (gi_cons (lg_wsX0_splitTunnels_1 _ (List.mem_of_getElem? (i := 10) rfl)) gi_nil)))))))) ls_wsX0_splitTunnels_1))
set_option maxRecDepth 20000 in
theorem gX0_splitTunnels_X3_addRow : GoodIn wsX0_splitTunnels (wsV RX0 113 RX3 yX3_addRow wsX3_addRow) := goodIn_app (gi_cons (lg_wsX0_splitTunnels_1 _ (List.mem_of_getElem? (i := 3) rfl)) (gi_cons (lg_wsX0_splitTunnels_1 _ (List.mem_of_getElem? (i := 4) rfl)) (gi_cons (lg_wsX0_splitTunnels_1 _ (List.mem_of_getElem? (i := 5) rfl)) (gi_cons (lg_wsX0_splitTunnels_0 _ (List.mem_of_getElem? (i := 7) rfl)) gi_nil)))) ggX0_splitTunnels_X3_addRow
set_option maxRecDepth 20000 in
theorem ggX0_splitTunnels_X3_lastIndex : GoodIn wsX0_splitTunnels wsX3_lastIndex := (gi_cons (lg_wsX0_splitTunnels_1 _ (List.mem_of_getElem? (i := 14) rfl)) (goodIn_app (gi_cons (lg_wsX0_splitTunnels_0 _ (List.mem_of_getElem? (i := 15) rfl)) (gi_cons (lg_wsX0_splitTunnels_0 _ (List.mem_of_getElem? (i := 21) rfl)) (gi_cons (lg_wsX0_splitTunnels_0 _ (List.mem_of_getElem? (i := 22) rfl)) (gi_cons (lg_wsX0_splitTunnels_0 _ (List.mem_of_getElem? (i := 23) rfl)) (gi_cons (lg_wsX0_splitTunnels_0 _ (List.mem_of_getElem? (i := 7) rfl)) (gi_cons (lg_wsX0_splitTunnels_1 _ (List.mem_of_getElem? (i := 0) rfl)) (gi_cons (lg_wsX0_splitTunnels_0 _ (List.mem_of_getElem? (i := 10) rfl)) (gi_cons (lg_wsX0_splitTunnels_0 _ (List.mem_of_getElem? (i := 20) rfl)) (gi_cons (lg_wsX0_splitTunnels_0 _ (List.mem_of_getElem? (i := 16) rfl)) (gi_cons (lg_wsX0_splitTunnels_0 _ (List.mem_of_getElem? (i := 17) rfl)) (gi_cons (lg_wsX0_splitTunnels_0 _ (List.mem_of_getElem? (i := 18) rfl)) (gi_cons (lg_wsX0_splitTunnels_0 _ (List.mem_of_getElem? (i := 19) rfl)) gi_nil)))))))))))) ls_wsX0_splitTunnels_1))
set_option maxRecDepth 20000 in
theorem gX0_splitTunnels_X3_lastIndex : GoodIn wsX0_splitTunnels (wsV RX0 137 RX3 yX3_lastIndex wsX3_lastIndex) := goodIn_app (gi_cons (lg_wsX0_splitTunnels_1 _ (List.mem_of_getElem? (i := 11) rfl)) (gi_cons (lg_wsX0_splitTunnels_1 _ (List.mem_of_getElem? (i := 12) rfl)) (gi_cons (lg_wsX0_splitTunnels_1 _ (List.mem_of_getElem? (i := 13) rfl)) (gi_cons (lg_wsX0_splitTunnels_0 _ (List.mem_of_getElem? (i := 7) rfl)) gi_nil)))) ggX0_splitTunnels_X3_lastIndex
set_option maxRecDepth 20000 in
theorem ggX0_splitTunnels_X3_copyFrom : GoodIn wsX0_splitTunnels wsX3_copyFrom := (gi_cons (lg_wsX0_splitTunnels_1 _ (List.mem_of_getElem? (i := 18) rfl)) (goodIn_app (gi_cons (lg_wsX0_splitTunnels_0 _ (List.mem_of_getElem? (i := 9) rfl)) (gi_cons (lg_wsX0_splitTunnels_0 _ (List.mem_of_getElem? (i := 10) rfl)) (gi_cons (lg_wsX0_splitTunnels_0 _ (List.mem_of_getElem? (i := 15) rfl)) (gi_cons (lg_wsX0_splitTunnels_1 _ (List.mem_of_getElem? (i := 7) rfl)) (gi_cons (lg_wsX0_splitTunnels_1 _ (List.mem_of_getElem? (i := 8) rfl)) (gi_cons (lg_wsX0_splitTunnels_1 _ (List.mem_of_getElem? (i := 9) rfl)) (gi_cons (lg_wsX0_splitTunnels_1 _ (List.mem_of_getElem? (i := 10) rfl)) (gi_cons (lg_wsX0_splitTunnels_0 _ (List.mem_of_getElem? (i := 20) rfl)) gi_nil)))))))) ls_wsX0_splitTunnels_1))
set_option maxRecDepth 20000 in
theorem gX0_splitTunnels_X3_copyFrom : GoodIn wsX0_splitTunnels (wsV RX0 52 RX3 yX3_copyFrom wsX3_copyFrom) := goodIn_app (gi_cons (lg_wsX0_splitTunnels_1 _ (List.mem_of_getElem? (i := 15) rfl)) (gi_cons (lg_wsX0_splitTunnels_1 _ (List.mem_of_getElem? (i := 16) rfl)) (gi_cons (lg_wsX0_splitTunnels_1 _ (List.mem_of_getElem? (i := 17) rfl)) (gi_cons (lg_wsX0_splitTunnels_0 _ (List.mem_of_getElem? (i := 7) rfl)) gi_nil)))) ggX0_splitTunnels_X3_copyFrom
theorem dX0_splitTunnels_0 : decode cX0_splitTunnels 0 = .ok (.aload_n 0, 1) := by decide +kernel
theorem dX0_splitTunnels_1 : decode cX0_splitTunnels 1 = .ok (.getfield 42, 3) := by decide +kernel
theorem dX0_splitTunnels_4 : decode cX0_splitTunnels 4 = .ok (.invokevirtual 120, 3) := by decide +kernel
theorem dX0_splitTunnels_7 : decode cX0_splitTunnels 7 = .ok (.iconst 0, 1) := by decide +kernel
theorem dX0_splitTunnels_8 : decode cX0_splitTunnels 8 = .ok (.istore_n 2, 1) := by decide +kernel
theorem dX0_splitTunnels_9 : decode cX0_splitTunnels 9 = .ok (.iload_n 2, 1) := by decide +kernel
theorem dX0_splitTunnels_10 : decode cX0_splitTunnels 10 = .ok (.aload_n 0, 1) := by decide +kernel
theorem dX0_splitTunnels_11 : decode cX0_splitTunnels 11 = .ok (.getfield 28, 3) := by decide +kernel
theorem dX0_splitTunnels_14 : decode cX0_splitTunnels 14 = .ok (.getfield 123, 3) := by decide +kernel
theorem dX0_splitTunnels_17 : decode cX0_splitTunnels 17 = .ok (.if_icmp .ge 113, 3) := by decide +kernel
theorem dX0_splitTunnels_20 : decode cX0_splitTunnels 20 = .ok (.aload_n 0, 1) := by decide +kernel
theorem dX0_splitTunnels_21 : decode cX0_splitTunnels 21 = .ok (.getfield 28, 3) := by decide +kernel
theorem dX0_splitTunnels_24 : decode cX0_splitTunnels 24 = .ok (.iload_n 2, 1) := by decide +kernel
theorem dX0_splitTunnels_25 : decode cX0_splitTunnels 25 = .ok (.iload_n 1, 1) := by decide +kernel
theorem dX0_splitTunnels_26 : decode cX0_splitTunnels 26 = .ok (.invokevirtual 126, 3) := by decide +kernel
theorem dX0_splitTunnels_29 : decode cX0_splitTunnels 29 = .ok (.istore_n 3, 1) := by decide +kernel
theorem dX0_splitTunnels_30 : decode cX0_splitTunnels 30 = .ok (.iload_n 3, 1) := by decide +kernel
theorem dX0_splitTunnels_31 : decode cX0_splitTunnels 31 = .ok (.iconst (-1), 1) := by decide +kernel
theorem dX0_splitTunnels_32 : decode cX0_splitTunnels 32 = .ok (.if_icmp .ne 36, 3) := by decide +kernel
theorem dX0_splitTunnels_35 : decode cX0_splitTunnels 35 = .ok (.aload_n 0, 1) := by decide +kernel
theorem dX0_splitTunnels_36 : decode cX0_splitTunnels 36 = .ok (.getfield 42, 3) := by decide +kernel
theorem dX0_splitTunnels_39 : decode cX0_splitTunnels 39 = .ok (.aload_n 0, 1) := by decide +kernel
theorem dX0_splitTunnels_40 : decode cX0_splitTunnels 40 = .ok (.getfield 28, 3) := by decide +kernel
theorem dX0_splitTunnels_43 : decode cX0_splitTunnels 43 = .ok (.getfield 128, 3) := by decide +kernel
theorem dX0_splitTunnels_46 : decode cX0_splitTunnels 46 = .ok (.aload_n 0, 1) := by decide +kernel
theorem dX0_splitTunnels_47 : decode cX0_splitTunnels 47 = .ok (.getfield 28, 3) := by decide +kernel
theorem dX0_splitTunnels_50 : decode cX0_splitTunnels 50 = .ok (.iload_n 2, 1) := by decide +kernel
theorem dX0_splitTunnels_51 : decode cX0_splitTunnels 51 = .ok (.invokevirtual 131, 3) := by decide +kernel
theorem dX0_splitTunnels_54 : decode cX0_splitTunnels 54 = .ok (.aload_n 0, 1) := by decide +kernel
theorem dX0_splitTunnels_55 : decode cX0_splitTunnels 55 = .ok (.getfield 28, 3) := by decide +kernel
theorem dX0_splitTunnels_58 : decode cX0_splitTunnels 58 = .ok (.iload_n 2, 1) := by decide +kernel
theorem dX0_splitTunnels_59 : decode cX0_splitTunnels 59 = .ok (.invokevirtual 134, 3) := by decide +kernel
theorem dX0_splitTunnels_62 : decode cX0_splitTunnels 62 = .ok (.invokevirtual 113, 3) := by decide +kernel
theorem dX0_splitTunnels_65 : decode cX0_splitTunnels 65 = .ok (.goto 59, 3) := by decide +kernel
theorem dX0_splitTunnels_68 : decode cX0_splitTunnels 68 = .ok (.aload_n 0, 1) := by decide +kernel
theorem dX0_splitTunnels_69 : decode cX0_splitTunnels 69 = .ok (.getfield 42, 3) := by decide +kernel
theorem dX0_splitTunnels_72 : decode cX0_splitTunnels 72 = .ok (.aload_n 0, 1) := by decide +kernel
theorem dX0_splitTunnels_73 : decode cX0_splitTunnels 73 = .ok (.getfield 28, 3) := by decide +kernel
theorem dX0_splitTunnels_76 : decode cX0_splitTunnels 76 = .ok (.getfield 128, 3) := by decide +kernel
theorem dX0_splitTunnels_79 : decode cX0_splitTunnels 79 = .ok (.aload_n 0, 1) := by decide +kernel
theorem dX0_splitTunnels_80 : decode cX0_splitTunnels 80 = .ok (.getfield 28, 3) := by decide +kernel
theorem dX0_splitTunnels_83 : decode cX0_splitTunnels 83 = .ok (.iload_n 2, 1) := by decide +kernel
theorem dX0_splitTunnels_84 : decode cX0_splitTunnels 84 = .ok (.invokevirtual 131, 3) := by decide +kernel
theorem dX0_splitTunnels_87 : decode cX0_splitTunnels 87 = .ok (.iload_n 3, 1) := by decide +kernel
theorem dX0_splitTunnels_88 : decode cX0_splitTunnels 88 = .ok (.iconst 1, 1) := by decide +kernel
theorem dX0_splitTunnels_89 : decode cX0_splitTunnels 89 = .ok (.iadd, 1) := by decide +kernel
theorem dX0_splitTunnels_90 : decode cX0_splitTunnels 90 = .ok (.invokevirtual 113, 3) := by decide +kernel
theorem dX0_splitTunnels_93 : decode cX0_splitTunnels 93 = .ok (.aload_n 0, 1) := by decide +kernel
theorem dX0_splitTunnels_94 : decode cX0_splitTunnels 94 = .ok (.getfield 42, 3) := by decide +kernel
theorem dX0_splitTunnels_97 : decode cX0_splitTunnels 97 = .ok (.aload_n 0, 1) := by decide +kernel
theorem dX0_splitTunnels_98 : decode cX0_splitTunnels 98 = .ok (.getfield 28, 3) := by decide +kernel
theorem dX0_splitTunnels_101 : decode cX0_splitTunnels 101 = .ok (.getfield 128, 3) := by decide +kernel
theorem dX0_splitTunnels_104 : decode cX0_splitTunnels 104 = .ok (.aload_n 0, 1) := by decide +kernel
theorem dX0_splitTunnels_105 : decode cX0_splitTunnels 105 = .ok (.getfield 28, 3) := by decide +kernel
theorem dX0_splitTunnels_108 : decode cX0_splitTunnels 108 = .ok (.iload_n 2, 1) := by decide +kernel
theorem dX0_splitTunnels_109 : decode cX0_splitTunnels 109 = .ok (.iload_n 1, 1) := by decide +kernel
theorem dX0_splitTunnels_110 : decode cX0_splitTunnels 110 = .ok (.invokevirtual 137, 3) := by decide +kernel
theorem dX0_splitTunnels_113 : decode cX0_splitTunnels 113 = .ok (.aload_n 0, 1) := by decide +kernel
theorem dX0_splitTunnels_114 : decode cX0_splitTunnels 114 = .ok (.getfield 28, 3) := by decide +kernel
theorem dX0_splitTunnels_117 : decode cX0_splitTunnels 117 = .ok (.iload_n 2, 1) := by decide +kernel
theorem dX0_splitTunnels_118 : decode cX0_splitTunnels 118 = .ok (.invokevirtual 134, 3) := by decide +kernel
theorem dX0_splitTunnels_121 : decode cX0_splitTunnels 121 = .ok (.invokevirtual 113, 3) := by decide +kernel
theorem dX0_splitTunnels_124 : decode cX0_splitTunnels 124 = .ok (.iinc 2 1, 3) := by decide +kernel
theorem dX0_splitTunnels_127 : decode cX0_splitTunnels 127 = .ok (.goto (-118), 3) := by decide +kernel
theorem dX0_splitTunnels_130 : decode cX0_splitTunnels 130 = .ok (.aload_n 0, 1) := by decide +kernel
theorem dX0_splitTunnels_131 : decode cX0_splitTunnels 131 = .ok (.getfield 28, 3) := by decide +kernel
theorem dX0_splitTunnels_134 : decode cX0_splitTunnels 134 = .ok (.aload_n 0, 1) := by decide +kernel
theorem dX0_splitTunnels_135 : decode cX0_splitTunnels 135 = .ok (.getfield 42, 3) := by decide +kernel
theorem dX0_splitTunnels_138 : decode cX0_splitTunnels 138 = .ok (.invokevirtual 52, 3) := by decide +kernel
theorem dX0_splitTunnels_141 : decode cX0_splitTunnels 141 = .ok (.return_, 1) := by decide +kernel
theorem dX0_catchMole_0 : decode cX0_catchMole 0 = .ok (.aload_n 0, 1) := by decide +kernel
theorem dX0_catchMole_1 : decode cX0_catchMole 1 = .ok (.getfield 34, 3) := by decide +kernel
theorem dX0_catchMole_4 : decode cX0_catchMole 4 = .ok (.iload_n 1, 1) := by decide +kernel
theorem dX0_catchMole_5 : decode cX0_catchMole 5 = .ok (.aaload, 1) := by decide +kernel
theorem dX0_catchMole_6 : decode cX0_catchMole 6 = .ok (.astore_n 2, 1) := by decide +kernel
theorem dX0_catchMole_7 : decode cX0_catchMole 7 = .ok (.aload_n 0, 1) := by decide +kernel
theorem dX0_catchMole_8 : decode cX0_catchMole 8 = .ok (.dup, 1) := by decide +kernel
theorem dX0_catchMole_9 : decode cX0_catchMole 9 = .ok (.getfield 56, 3) := by decide +kernel
theorem dX0_catchMole_12 : decode cX0_catchMole 12 = .ok (.iconst 1, 1) := by decide +kernel
theorem dX0_catchMole_13 : decode cX0_catchMole 13 = .ok (.isub, 1) := by decide +kernel
theorem dX0_catchMole_14 : decode cX0_catchMole 14 = .ok (.putfield 56, 3) := by decide +kernel
theorem dX0_catchMole_17 : decode cX0_catchMole 17 = .ok (.iload_n 1, 1) := by decide +kernel
theorem dX0_catchMole_18 : decode cX0_catchMole 18 = .ok (.istore_n 3, 1) := by decide +kernel
theorem dX0_catchMole_19 : decode cX0_catchMole 19 = .ok (.iload_n 3, 1) := by decide +kernel
theorem dX0_catchMole_20 : decode cX0_catchMole 20 = .ok (.aload_n 0, 1) := by decide +kernel
theorem dX0_catchMole_21 : decode cX0_catchMole 21 = .ok (.getfield 56, 3) := by decide +kernel
theorem dX0_catchMole_24 : decode cX0_catchMole 24 = .ok (.if_icmp .ge 23, 3) := by decide +kernel
theorem dX0_catchMole_27 : decode cX0_catchMole 27 = .ok (.aload_n 0, 1) := by decide +kernel
theorem dX0_catchMole_28 : decode cX0_catchMole 28 = .ok (.getfield 34, 3) := by decide +kernel
theorem dX0_catchMole_31 : decode cX0_catchMole 31 = .ok (.iload_n 3, 1) := by decide +kernel
theorem dX0_catchMole_32 : decode cX0_catchMole 32 = .ok (.aload_n 0, 1) := by decide +kernel
theorem dX0_catchMole_33 : decode cX0_catchMole 33 = .ok (.getfield 34, 3) := by decide +kernel
theorem dX0_catchMole_36 : decode cX0_catchMole 36 = .ok (.iload_n 3, 1) := by decide +kernel
theorem dX0_catchMole_37 : decode cX0_catchMole 37 = .ok (.iconst 1, 1) := by decide +kernel
theorem dX0_catchMole_38 : decode cX0_catchMole 38 = .ok (.iadd, 1) := by decide +kernel
theorem dX0_catchMole_39 : decode cX0_catchMole 39 = .ok (.aaload, 1) := by decide +kernel
theorem dX0_catchMole_40 : decode cX0_catchMole 40 = .ok (.aastore, 1) := by decide +kernel
theorem dX0_catchMole_41 : decode cX0_catchMole 41 = .ok (.iinc 3 1, 3) := by decide +kernel
theorem dX0_catchMole_44 : decode cX0_catchMole 44 = .ok (.goto (-25), 3) := by decide +kernel
theorem dX0_catchMole_47 : decode cX0_catchMole 47 = .ok (.aload_n 0, 1) := by decide +kernel
theorem dX0_catchMole_48 : decode cX0_catchMole 48 = .ok (.getfield 34, 3) := by decide +kernel
theorem dX0_catchMole_51 : decode cX0_catchMole 51 = .ok (.aload_n 0, 1) := by decide +kernel
theorem dX0_catchMole_52 : decode cX0_catchMole 52 = .ok (.getfield 56, 3) := by decide +kernel
theorem dX0_catchMole_55 : decode cX0_catchMole 55 = .ok (.aload_n 2, 1) := by decide +kernel
theorem dX0_catchMole_56 : decode cX0_catchMole 56 = .ok (.aastore, 1) := by decide +kernel
theorem dX0_catchMole_57 : decode cX0_catchMole 57 = .ok (.aload_n 0, 1) := by decide +kernel
theorem dX0_catchMole_58 : decode cX0_catchMole 58 = .ok (.dup, 1) := by decide +kernel
theorem dX0_catchMole_59 : decode cX0_catchMole 59 = .ok (.getfield 65, 3) := by decide +kernel
theorem dX0_catchMole_62 : decode cX0_catchMole 62 = .ok (.iconst 1, 1) := by decide +kernel
theorem dX0_catchMole_63 : decode cX0_catchMole 63 = .ok (.iadd, 1) := by decide +kernel
theorem dX0_catchMole_64 : decode cX0_catchMole 64 = .ok (.putfield 65, 3) := by decide +kernel
theorem dX0_catchMole_67 : decode cX0_catchMole 67 = .ok (.return_, 1) := by decide +kernel
theorem lg_wsX0_beat_0 : GoodIn wsX0_beat wsX0_beat_r1 := goodIn_sub (fun _ h => (List.mem_cons_of_mem _ (List.mem_append_left _ (List.mem_append_left _ (List.mem_append_left _ (List.mem_append_left _ h)))))) (by decide +kernel)
theorem lg_wsX0_beat_1 : GoodIn wsX0_beat wsX0_beat_r2 := goodIn_sub (fun _ h => (List.mem_cons_of_mem _ (List.mem_append_left _ (List.mem_append_left _ (List.mem_append_left _ (List.mem_append_right _ (List.mem_append_left _ h))))))) (by decide +kernel)
theorem lg_wsX0_beat_2 : GoodIn wsX0_beat wsX0_beat_r3 := goodIn_sub (fun _ h => (List.mem_cons_of_mem _ (List.mem_append_left _ (List.mem_append_left _ (List.mem_append_left _ (List.mem_append_right _ (List.mem_append_right _ (List.mem_append_left _ h)))))))) (by decide +kernel)
theorem lg_wsX0_beat_3 : GoodIn wsX0_beat wsX0_beat_r4 := goodIn_sub (fun _ h => (List.mem_cons_of_mem _ (List.mem_append_left _ (List.mem_append_left _ (List.mem_append_left _ (List.mem_append_right _ (List.mem_append_right _ (List.mem_append_right _ (List.mem_append_left _ h))))))))) (by decide +kernel)
theorem lg_wsX0_beat_4 : GoodIn wsX0_beat wsX0_beat_r5 := goodIn_sub (fun _ h => (List.mem_cons_of_mem _ (List.mem_append_left _ (List.mem_append_left _ (List.mem_append_left _ (List.mem_append_right _ (List.mem_append_right _ (List.mem_append_right _ (List.mem_append_right _ h))))))))) (by decide +kernel)
theorem ls_wsX0_beat_0 : GoodIn wsX0_beat wsX00 := goodIn_sub (fun _ h => (List.mem_cons_of_mem _ (List.mem_append_left _ (List.mem_append_left _ (List.mem_append_right _ h))))) (by decide +kernel)
theorem ls_wsX0_beat_1 : GoodIn wsX0_beat wsX10 := goodIn_sub (fun _ h => (List.mem_cons_of_mem _ (List.mem_append_left _ (List.mem_append_right _ h)))) (by decide +kernel)
theorem ls_wsX0_beat_2 : GoodIn wsX0_beat wsX30 := goodIn_sub (fun _ h => (List.mem_cons_of_mem _ (List.mem_append_right _ h))) (by decide +kernel)
set_option maxRecDepth 20000 in
theorem ggX0_beat_X0_staysAfterTurn : GoodIn wsX0_beat wsX0_staysAfterTurn := (gi_cons (lg_wsX0_beat_0 _ (List.mem_of_getElem? (i := 7) rfl)) (goodIn_app (goodIn_app (goodIn_app (goodIn_app (gi_cons (lg_wsX0_beat_0 _ (List.mem_of_getElem? (i := 8) rfl)) (gi_cons (lg_wsX0_beat_0 _ (List.mem_of_getElem? (i := 9) rfl)) (gi_cons (lg_wsX0_beat_0 _ (List.mem_of_getElem? (i := 10) rfl)) (gi_cons (lg_wsX0_beat_0 _ (List.mem_of_getElem? (i := 11) rfl)) (gi_cons (lg_wsX0_beat_0 _ (List.mem_of_getElem? (i := 12) rfl)) (gi_cons (lg_wsX0_beat_0 _ (List.mem_of_getElem? (i := 13) rfl)) (gi_cons (lg_wsX0_beat_0 _ (List.mem_of_getElem? (i := 1) rfl)) (gi_cons (lg_wsX0_beat_0 _ (List.mem_of_getElem? (i := 14) rfl)) (gi_cons (lg_wsX0_beat_0 _ (List.mem_of_getElem? (i := 15) rfl)) (gi_cons (lg_wsX0_beat_0 _ (List.mem_of_getElem? (i := 16) rfl)) (gi_cons (lg_wsX0_beat_0 _ (List.mem_of_getElem? (i := 17) rfl)) (gi_cons (lg_wsX0_beat_0 _ (List.mem_of_getElem? (i := 18) rfl)) (gi_cons (lg_wsX0_beat_0 _ (List.mem_of_getElem? (i := 19) rfl)) (gi_cons (lg_wsX0_beat_0 _ (List.mem_of_getElem? (i := 20) rfl)) (gi_cons (lg_wsX0_beat_0 _ (List.mem_of_getElem? (i := 21) rfl)) (gi_cons (lg_wsX0_beat_0 _ (List.mem_of_getElem? (i := 22) rfl)) (gi_cons (lg_wsX0_beat_0 _ (List.mem_of_getElem? (i := 23) rfl)) (gi_cons (lg_wsX0_beat_1 _ (List.mem_of_getElem? (i := 0) rfl)) (gi_cons (lg_wsX0_beat_1 _ (List.mem_of_getElem? (i := 1) rfl)) (gi_cons (lg_wsX0_beat_1 _ (List.mem_of_getElem? (i := 2) rfl)) (gi_cons (lg_wsX0_beat_1 _ (List.mem_of_getElem? (i := 3) rfl)) (gi_cons (lg_wsX0_beat_1 _ (List.mem_of_getElem? (i := 4) rfl)) (gi_cons (lg_wsX0_beat_1 _ (List.mem_of_getElem? (i := 5) rfl)) (gi_cons (lg_wsX0_beat_1 _ (List.mem_of_getElem? (i := 6) rfl)) gi_nil)))))))))))))))))))))))) (goodIn_app (gi_cons (lg_wsX0_beat_1 _ (List.mem_of_getElem? (i := 7) rfl)) (gi_cons (lg_wsX0_beat_1 _ (List.mem_of_getElem? (i := 8) rfl)) (gi_cons (lg_wsX0_beat_1 _ (List.mem_of_getElem? (i := 9) rfl)) (gi_cons (lg_wsX0_beat_1 _ (List.mem_of_getElem? (i := 10) rfl)) (gi_cons (lg_wsX0_beat_1 _ (List.mem_of_getElem? (i := 11) rfl)) (gi_cons (lg_wsX0_beat_1 _ (List.mem_of_getElem? (i := 12) rfl)) (gi_cons (lg_wsX0_beat_1 _ (List.mem_of_getElem? (i := 13) rfl)) (gi_cons (lg_wsX0_beat_1 _ (List.mem_of_getElem? (i := 14) rfl)) (gi_cons (lg_wsX0_beat_1 _ (List.mem_of_getElem? (i := 15) rfl)) (gi_cons (lg_wsX0_beat_1 _ (List.mem_of_getElem? (i := 16) rfl)) (gi_cons (lg_wsX0_beat_1 _ (List.mem_of_getElem? (i := 17) rfl)) (gi_cons (lg_wsX0_beat_1 _ (List.mem_of_getElem? (i := 18) rfl)) (gi_cons (lg_wsX0_beat_1 _ (List.mem_of_getElem? (i := 19) rfl)) (gi_cons (lg_wsX0_beat_1 _ (List.mem_of_getElem? (i := 20) rfl)) (gi_cons (lg_wsX0_beat_0 _ (List.mem_of_getElem? (i := 6) rfl)) (gi_cons (lg_wsX0_beat_1 _ (List.mem_of_getElem? (i := 21) rfl)) (gi_cons (lg_wsX0_beat_0 _ (List.mem_of_getElem? (i := 2) rfl)) (gi_cons (lg_wsX0_beat_1 _ (List.mem_of_getElem? (i := 22) rfl)) (gi_cons (lg_wsX0_beat_1 _ (List.mem_of_getElem? (i := 23) rfl)) (gi_cons (lg_wsX0_beat_2 _ (List.mem_of_getElem? (i := 0) rfl)) (gi_cons (lg_wsX0_beat_2 _ (List.mem_of_getElem? (i := 1) rfl)) (gi_cons (lg_wsX0_beat_2 _ (List.mem_of_getElem? (i := 2) rfl)) (gi_cons (lg_wsX0_beat_2 _ (List.mem_of_getElem? (i := 3) rfl)) (gi_cons (lg_wsX0_beat_2 _ (List.mem_of_getElem? (i := 4) rfl)) gi_nil)))))))))))))))))))))))) (goodIn_app (gi_cons (lg_wsX0_beat_2 _ (List.mem_of_getElem? (i := 5) rfl)) (gi_cons (lg_wsX0_beat_2 _ (List.mem_of_getElem? (i := 6) rfl)) (gi_cons (lg_wsX0_beat_2 _ (List.mem_of_getElem? (i := 7) rfl)) (gi_cons (lg_wsX0_beat_2 _ (List.mem_of_getElem? (i := 8) rfl)) (gi_cons (lg_wsX0_beat_2 _ (List.mem_of_getElem? (i := 9) rfl)) (gi_cons (lg_wsX0_beat_2 _ (List.mem_of_getElem? (i := 10) rfl)) (gi_cons (lg_wsX0_beat_2 _ (List.mem_of_getElem? (i := 11) rfl)) (gi_cons (lg_wsX0_beat_2 _ (List.mem_of_getElem? (i := 12) rfl)) (gi_cons (lg_wsX0_beat_2 _ (List.mem_of_getElem? (i := 13) rfl)) (gi_cons (lg_wsX0_beat_2 _ (List.mem_of_getElem? (i := 14) rfl)) (gi_cons (lg_wsX0_beat_2 _ (List.mem_of_getElem? (i := 15) rfl)) (gi_cons (lg_wsX0_beat_2 _ (List.mem_of_getElem? (i := 16) rfl)) (gi_cons (lg_wsX0_beat_2 _ (List.mem_of_getElem? (i := 17) rfl)) (gi_cons (lg_wsX0_beat_2 _ (List.mem_of_getElem? (i := 18) rfl)) (gi_cons (lg_wsX0_beat_2 _ (List.mem_of_getElem? (i := 19) rfl)) (gi_cons (lg_wsX0_beat_2 _ (List.mem_of_getElem? (i := 20) rfl)) (gi_cons (lg_wsX0_beat_2 _ (List.mem_of_getElem? (i := 21) rfl)) (gi_cons (lg_wsX0_beat_2 _ (List.mem_of_getElem? (i := 22) rfl)) (gi_cons (lg_wsX0_beat_2 _ (List.mem_of_getElem? (i := 23) rfl)) (gi_cons (lg_wsX0_beat_3 _ (List.mem_of_getElem? (i := 0) rfl)) (gi_cons (lg_wsX0_beat_3 _ (List.mem_of_getElem? (i := 1) rfl)) (gi_cons (lg_wsX0_beat_3 _ (List.mem_of_getElem? (i := 2) rfl)) (gi_cons (lg_wsX0_beat_3 _ (List.mem_of_getElem? (i := 3) rfl)) (gi_cons (lg_wsX0_beat_3 _ (List.mem_of_getElem? (i := 4) rfl)) gi_nil)))))))))))))))))))))))) (goodIn_app (gi_cons (lg_wsX0_beat_3 _ (List.mem_of_getElem? (i := 5) rfl)) (gi_cons (lg_wsX0_beat_3 _ (List.mem_of_getElem? (i := 6) rfl)) (gi_cons (lg_wsX0_beat_3 _ (List.mem_of_getElem? (i := 7) rfl)) (gi_cons (lg_wsX0_beat_3 _ (List.mem_of_getElem? (i := 8) rfl)) (gi_cons (lg_wsX0_beat_3 _ (List.mem_of_getElem? (i := 9) rfl)) (gi_cons (lg_wsX0_beat_3 _ (List.mem_of_getElem? (i := 10) rfl)) (gi_cons (lg_wsX0_beat_3 _ (List.mem_of_getElem? (i := 11) rfl)) (gi_cons (lg_wsX0_beat_3 _ (List.mem_of_getElem? (i := 12) rfl)) (gi_cons (lg_wsX0_beat_3 _ (List.mem_of_getElem? (i := 13) rfl)) (gi_cons (lg_wsX0_beat_3 _ (List.mem_of_getElem? (i := 14) rfl)) (gi_cons (lg_wsX0_beat_3 _ (List.mem_of_getElem? (i := 15) rfl)) (gi_cons (lg_wsX0_beat_3 _ (List.mem_of_getElem? (i := 16) rfl)) (gi_cons (lg_wsX0_beat_3 _ (List.mem_of_getElem? (i := 17) rfl)) (gi_cons (lg_wsX0_beat_3 _ (List.mem_of_getElem? (i := 18) rfl)) (gi_cons (lg_wsX0_beat_3 _ (List.mem_of_getElem? (i := 19) rfl)) (gi_cons (lg_wsX0_beat_3 _ (List.mem_of_getElem? (i := 20) rfl)) (gi_cons (lg_wsX0_beat_3 _ (List.mem_of_getElem? (i := 21) rfl)) (gi_cons (lg_wsX0_beat_3 _ (List.mem_of_getElem? (i := 22) rfl)) (gi_cons (lg_wsX0_beat_3 _ (List.mem_of_getElem? (i := 23) rfl)) (gi_cons (lg_wsX0_beat_4 _ (List.mem_of_getElem? (i := 0) rfl)) (gi_cons (lg_wsX0_beat_4 _ (List.mem_of_getElem? (i := 1) rfl)) (gi_cons (lg_wsX0_beat_4 _ (List.mem_of_getElem? (i := 2) rfl)) (gi_cons (lg_wsX0_beat_4 _ (List.mem_of_getElem? (i := 3) rfl)) (gi_cons (lg_wsX0_beat_4 _ (List.mem_of_getElem? (i := 4) rfl)) gi_nil)))))))))))))))))))))))) (gi_cons (lg_wsX0_beat_4 _ (List.mem_of_getElem? (i := 5) rfl)) (gi_cons (lg_wsX0_beat_4 _ (List.mem_of_getElem? (i := 6) rfl)) (gi_cons (lg_wsX0_beat_4 _ (List.mem_of_getElem? (i := 7) rfl)) (gi_cons (lg_wsX0_beat_4 _ (List.mem_of_getElem? (i := 8) rfl)) (gi_cons (lg_wsX0_beat_4 _ (List.mem_of_getElem? (i := 9) rfl)) (gi_cons (lg_wsX0_beat_4 _ (List.mem_of_getElem? (i := 10) rfl)) (gi_cons (lg_wsX0_beat_4 _ (List.mem_of_getElem? (i := 11) rfl)) (gi_cons (lg_wsX0_beat_4 _ (List.mem_of_getElem? (i := 12) rfl)) (gi_cons (lg_wsX0_beat_4 _ (List.mem_of_getElem? (i := 13) rfl)) (gi_cons (lg_wsX0_beat_4 _ (List.mem_of_getElem? (i := 14) rfl)) (gi_cons (lg_wsX0_beat_4 _ (List.mem_of_getElem? (i := 15) rfl)) (gi_cons (lg_wsX0_beat_4 _ (List.mem_of_getElem? (i := 16) rfl)) (gi_cons (lg_wsX0_beat_4 _ (List.mem_of_getElem? (i := 17) rfl)) (gi_cons (lg_wsX0_beat_4 _ (List.mem_of_getElem? (i := 18) rfl)) (gi_cons (lg_wsX0_beat_4 _ (List.mem_of_getElem? (i := 19) rfl)) gi_nil))))))))))))))))))) ls_wsX0_beat_0) ls_wsX0_beat_1) ls_wsX0_beat_2))
set_option maxRecDepth 20000 in
theorem gX0_beat_X0_staysAfterTurn : GoodIn wsX0_beat (wsV RX0 140 RX0 yX0_staysAfterTurn wsX0_staysAfterTurn) := goodIn_app (gi_cons (lg_wsX0_beat_0 _ (List.mem_of_getElem? (i := 3) rfl)) (gi_cons (lg_wsX0_beat_0 _ (List.mem_of_getElem? (i := 4) rfl)) (gi_cons (lg_wsX0_beat_0 _ (List.mem_of_getElem? (i := 5) rfl)) (gi_cons (lg_wsX0_beat_0 _ (List.mem_of_getElem? (i := 6) rfl)) gi_nil)))) ggX0_beat_X0_staysAfterTurn
theorem dX0_beat_0 : decode cX0_beat 0 = .ok (.aload_n 0, 1) := by decide +kernel
theorem dX0_beat_1 : decode cX0_beat 1 = .ok (.dup, 1) := by decide +kernel
theorem dX0_beat_2 : decode cX0_beat 2 = .ok (.getfield 62, 3) := by decide +kernel
theorem dX0_beat_5 : decode cX0_beat 5 = .ok (.iconst 1, 1) := by decide +kernel
theorem dX0_beat_6 : decode cX0_beat 6 = .ok (.iadd, 1) := by decide +kernel
theorem dX0_beat_7 : decode cX0_beat 7 = .ok (.putfield 62, 3) := by decide +kernel
theorem dX0_beat_10 : decode cX0_beat 10 = .ok (.iconst 0, 1) := by decide +kernel
theorem dX0_beat_11 : decode cX0_beat 11 = .ok (.istore_n 1, 1) := by decide +kernel
theorem dX0_beat_12 : decode cX0_beat 12 = .ok (.iload_n 1, 1) := by decide +kernel
theorem dX0_beat_13 : decode cX0_beat 13 = .ok (.bipush 64, 2) := by decide +kernel
theorem dX0_beat_15 : decode cX0_beat 15 = .ok (.if_icmp .ge 28, 3) := by decide +kernel
theorem dX0_beat_18 : decode cX0_beat 18 = .ok (.aload_n 0, 1) := by decide +kernel
theorem dX0_beat_19 : decode cX0_beat 19 = .ok (.getfield 22, 3) := by decide +kernel
theorem dX0_beat_22 : decode cX0_beat 22 = .ok (.iload_n 1, 1) := by decide +kernel
theorem dX0_beat_23 : decode cX0_beat 23 = .ok (.iaload, 1) := by decide +kernel
theorem dX0_beat_24 : decode cX0_beat 24 = .ok (.ifCond .le 13, 3) := by decide +kernel
theorem dX0_beat_27 : decode cX0_beat 27 = .ok (.aload_n 0, 1) := by decide +kernel
theorem dX0_beat_28 : decode cX0_beat 28 = .ok (.getfield 22, 3) := by decide +kernel
theorem dX0_beat_31 : decode cX0_beat 31 = .ok (.iload_n 1, 1) := by decide +kernel
theorem dX0_beat_32 : decode cX0_beat 32 = .ok (.dup2, 1) := by decide +kernel
theorem dX0_beat_33 : decode cX0_beat 33 = .ok (.iaload, 1) := by decide +kernel
theorem dX0_beat_34 : decode cX0_beat 34 = .ok (.iconst 1, 1) := by decide +kernel
theorem dX0_beat_35 : decode cX0_beat 35 = .ok (.isub, 1) := by decide +kernel
theorem dX0_beat_36 : decode cX0_beat 36 = .ok (.iastore, 1) := by decide +kernel
theorem dX0_beat_37 : decode cX0_beat 37 = .ok (.iinc 1 1, 3) := by decide +kernel
theorem dX0_beat_40 : decode cX0_beat 40 = .ok (.goto (-28), 3) := by decide +kernel
theorem dX0_beat_43 : decode cX0_beat 43 = .ok (.iconst 0, 1) := by decide +kernel
theorem dX0_beat_44 : decode cX0_beat 44 = .ok (.istore_n 1, 1) := by decide +kernel
theorem dX0_beat_45 : decode cX0_beat 45 = .ok (.aload_n 0, 1) := by decide +kernel
theorem dX0_beat_46 : decode cX0_beat 46 = .ok (.getfield 56, 3) := by decide +kernel
theorem dX0_beat_49 : decode cX0_beat 49 = .ok (.istore_n 2, 1) := by decide +kernel
theorem dX0_beat_50 : decode cX0_beat 50 = .ok (.iload_n 2, 1) := by decide +kernel
theorem dX0_beat_51 : decode cX0_beat 51 = .ok (.ifCond .le 28, 3) := by decide +kernel
theorem dX0_beat_54 : decode cX0_beat 54 = .ok (.iload_n 1, 1) := by decide +kernel
theorem dX0_beat_55 : decode cX0_beat 55 = .ok (.aload_n 0, 1) := by decide +kernel
theorem dX0_beat_56 : decode cX0_beat 56 = .ok (.getfield 56, 3) := by decide +kernel
theorem dX0_beat_59 : decode cX0_beat 59 = .ok (.if_icmp .ge 14, 3) := by decide +kernel
theorem dX0_beat_62 : decode cX0_beat 62 = .ok (.aload_n 0, 1) := by decide +kernel
theorem dX0_beat_63 : decode cX0_beat 63 = .ok (.iload_n 1, 1) := by decide +kernel
theorem dX0_beat_64 : decode cX0_beat 64 = .ok (.invokevirtual 140, 3) := by decide +kernel
theorem dX0_beat_67 : decode cX0_beat 67 = .ok (.ifCond .eq 6, 3) := by decide +kernel
theorem dX0_beat_70 : decode cX0_beat 70 = .ok (.iinc 1 1, 3) := by decide +kernel
theorem dX0_beat_73 : decode cX0_beat 73 = .ok (.iinc 2 (-1), 3) := by decide +kernel
theorem dX0_beat_76 : decode cX0_beat 76 = .ok (.goto (-26), 3) := by decide +kernel
theorem dX0_beat_79 : decode cX0_beat 79 = .ok (.return_, 1) := by decide +kernel
theorem lg_wsX0_staysAfterTurn_0 : GoodIn wsX0_staysAfterTurn wsX0_staysAfterTurn_r1 := goodIn_sub (fun _ h => (List.mem_cons_of_mem _ (List.mem_append_left _ (List.mem_append_left _ (List.mem_append_left _ (List.mem_append_left _ h)))))) (by decide +kernel)
theorem lg_wsX0_staysAfterTurn_1 : GoodIn wsX0_staysAfterTurn wsX0_staysAfterTurn_r2 := goodIn_sub (fun _ h => (List.mem_cons_of_mem _ (List.mem_append_left _ (List.mem_append_left _ (List.mem_append_left _ (List.mem_append_right _ (List.mem_append_left _ h))))))) (by decide +kernel)
theorem lg_wsX0_staysAfterTurn_2 : GoodIn wsX0_staysAfterTurn wsX0_staysAfterTurn_r3 := goodIn_sub (fun _ h => (List.mem_cons_of_mem _ (List.mem_append_left _ (List.mem_append_left _ (List.mem_append_left _ (List.mem_append_right _ (List.mem_append_right _ (List.mem_append_left _ h)))))))) (by decide +kernel)
theorem lg_wsX0_staysAfterTurn_3 : GoodIn wsX0_staysAfterTurn wsX0_staysAfterTurn_r4 := goodIn_sub (fun _ h => (List.mem_cons_of_mem _ (List.mem_append_left _ (List.mem_append_left _ (List.mem_append_left _ (List.mem_append_right _ (List.mem_append_right _ (List.mem_append_right _ (List.mem_append_left _ h))))))))) (by decide +kernel)
theorem lg_wsX0_staysAfterTurn_4 : GoodIn wsX0_staysAfterTurn wsX0_staysAfterTurn_r5 := goodIn_sub (fun _ h => (List.mem_cons_of_mem _ (List.mem_append_left _ (List.mem_append_left _ (List.mem_append_left _ (List.mem_append_right _ (List.mem_append_right _ (List.mem_append_right _ (List.mem_append_right _ h))))))))) (by decide +kernel)
theorem ls_wsX0_staysAfterTurn_0 : GoodIn wsX0_staysAfterTurn wsX00 := goodIn_sub (fun _ h => (List.mem_cons_of_mem _ (List.mem_append_left _ (List.mem_append_left _ (List.mem_append_right _ h))))) (by decide +kernel)
theorem ls_wsX0_staysAfterTurn_1 : GoodIn wsX0_staysAfterTurn wsX10 := goodIn_sub (fun _ h => (List.mem_cons_of_mem _ (List.mem_append_left _ (List.mem_append_right _ h)))) (by decide +kernel)
theorem ls_wsX0_staysAfterTurn_2 : GoodIn wsX0_staysAfterTurn wsX30 := goodIn_sub (fun _ h => (List.mem_cons_of_mem _ (List.mem_append_right _ h))) (by decide +kernel)
set_option maxRecDepth 20000 in
theorem ggX0_staysAfterTurn_X1_place : GoodIn wsX0_staysAfterTurn wsX1_place := (gi_cons (lg_wsX0_staysAfterTurn_0 _ (List.mem_of_getElem? (i := 13) rfl)) (goodIn_app (gi_cons (lg_wsX0_staysAfterTurn_0 _ (List.mem_of_getElem? (i := 14) rfl)) (gi_cons (lg_wsX0_staysAfterTurn_0 _ (List.mem_of_getElem? (i := 15) rfl)) gi_nil)) ls_wsX0_staysAfterTurn_1))
set_option maxRecDepth 20000 in
theorem gX0_staysAfterTurn_X1_place : GoodIn wsX0_staysAfterTurn (wsV RX0 77 RX1 yX1_place wsX1_place) := goodIn_app (gi_cons (lg_wsX0_staysAfterTurn_0 _ (List.mem_of_getElem? (i := 9) rfl)) (gi_cons (lg_wsX0_staysAfterTurn_0 _ (List.mem_of_getElem? (i := 10) rfl)) (gi_cons (lg_wsX0_staysAfterTurn_0 _ (List.mem_of_getElem? (i := 11) rfl)) (gi_cons (lg_wsX0_staysAfterTurn_0 _ (List.mem_of_getElem? (i := 12) rfl)) gi_nil)))) ggX0_staysAfterTurn_X1_place
set_option maxRecDepth 20000 in
theorem ggX0_staysAfterTurn_X6_stepFrom : GoodIn wsX0_staysAfterTurn wsX6_stepFrom := (gi_cons (lg_wsX0_staysAfterTurn_0 _ (List.mem_of_getElem? (i := 18) rfl)) (gi_cons (lg_wsX0_staysAfterTurn_0 _ (List.mem_of_getElem? (i := 19) rfl)) (gi_cons (lg_wsX0_staysAfterTurn_0 _ (List.mem_of_getElem? (i := 20) rfl)) (gi_cons (lg_wsX0_staysAfterTurn_0 _ (List.mem_of_getElem? (i := 21) rfl)) (gi_cons (lg_wsX0_staysAfterTurn_0 _ (List.mem_of_getElem? (i := 22) rfl)) (gi_cons (lg_wsX0_staysAfterTurn_0 _ (List.mem_of_getElem? (i := 17) rfl)) (gi_cons (lg_wsX0_staysAfterTurn_0 _ (List.mem_of_getElem? (i := 23) rfl)) gi_nil)))))))
set_option maxRecDepth 20000 in
theorem gX0_staysAfterTurn_X6_stepFrom_n147 : GoodIn wsX0_staysAfterTurn (wsX6_stepFrom) := ggX0_staysAfterTurn_X6_stepFrom
set_option maxRecDepth 20000 in
theorem ggX0_staysAfterTurn_X1_dropDirection : GoodIn wsX0_staysAfterTurn wsX1_dropDirection := (gi_cons (lg_wsX0_staysAfterTurn_1 _ (List.mem_of_getElem? (i := 3) rfl)) (goodIn_app (gi_cons (lg_wsX0_staysAfterTurn_1 _ (List.mem_of_getElem? (i := 4) rfl)) (gi_cons (lg_wsX0_staysAfterTurn_1 _ (List.mem_of_getElem? (i := 5) rfl)) gi_nil)) ls_wsX0_staysAfterTurn_1))
set_option maxRecDepth 20000 in
theorem gX0_staysAfterTurn_X1_dropDirection : GoodIn wsX0_staysAfterTurn (wsV RX0 150 RX1 yX1_dropDirection wsX1_dropDirection) := goodIn_app (gi_cons (lg_wsX0_staysAfterTurn_1 _ (List.mem_of_getElem? (i := 0) rfl)) (gi_cons (lg_wsX0_staysAfterTurn_1 _ (List.mem_of_getElem? (i := 1) rfl)) (gi_cons (lg_wsX0_staysAfterTurn_1 _ (List.mem_of_getElem? (i := 2) rfl)) (gi_cons (lg_wsX0_staysAfterTurn_0 _ (List.mem_of_getElem? (i := 12) rfl)) gi_nil)))) ggX0_staysAfterTurn_X1_dropDirection
set_option maxRecDepth 20000 in
theorem ggX0_staysAfterTurn_X1_go : GoodIn wsX0_staysAfterTurn wsX1_go := (gi_cons (lg_wsX0_staysAfterTurn_1 _ (List.mem_of_getElem? (i := 9) rfl)) (goodIn_app (gi_cons (lg_wsX0_staysAfterTurn_1 _ (List.mem_of_getElem? (i := 10) rfl)) (gi_cons (lg_wsX0_staysAfterTurn_0 _ (List.mem_of_getElem? (i := 15) rfl)) (gi_cons (lg_wsX0_staysAfterTurn_0 _ (List.mem_of_getElem? (i := 14) rfl)) gi_nil))) ls_wsX0_staysAfterTurn_1))
set_option maxRecDepth 20000 in
theorem gX0_staysAfterTurn_X1_go : GoodIn wsX0_staysAfterTurn (wsV RX0 153 RX1 yX1_go wsX1_go) := goodIn_app (gi_cons (lg_wsX0_staysAfterTurn_1 _ (List.mem_of_getElem? (i := 6) rfl)) (gi_cons (lg_wsX0_staysAfterTurn_1 _ (List.mem_of_getElem? (i := 7) rfl)) (gi_cons (lg_wsX0_staysAfterTurn_1 _ (List.mem_of_getElem? (i := 8) rfl)) (gi_cons (lg_wsX0_staysAfterTurn_0 _ (List.mem_of_getElem? (i := 12) rfl)) gi_nil)))) ggX0_staysAfterTurn_X1_go
set_option maxRecDepth 20000 in
theorem ggX0_staysAfterTurn_X0_catchMole : GoodIn wsX0_staysAfterTurn wsX0_catchMole := (gi_cons (lg_wsX0_staysAfterTurn_1 _ (List.mem_of_getElem? (i := 15) rfl)) (goodIn_app (gi_cons (lg_wsX0_staysAfterTurn_0 _ (List.mem_of_getElem? (i := 0) rfl)) (gi_cons (lg_wsX0_staysAfterTurn_1 _ (List.mem_of_getElem? (i := 16) rfl)) (gi_cons (lg_wsX0_staysAfterTurn_1 _ (List.mem_of_getElem? (i := 17) rfl)) gi_nil))) ls_wsX0_staysAfterTurn_0))
set_option maxRecDepth 20000 in
theorem gX0_staysAfterTurn_X0_catchMole : GoodIn wsX0_staysAfterTurn (wsV RX0 156 RX0 yX0_catchMole wsX0_catchMole) := goodIn_app (gi_cons (lg_wsX0_staysAfterTurn_1 _ (List.mem_of_getElem? (i := 11) rfl)) (gi_cons (lg_wsX0_staysAfterTurn_1 _ (List.mem_of_getElem? (i := 12) rfl)) (gi_cons (lg_wsX0_staysAfterTurn_1 _ (List.mem_of_getElem? (i := 13) rfl)) (gi_cons (lg_wsX0_staysAfterTurn_1 _ (List.mem_of_getElem? (i := 14) rfl)) gi_nil)))) ggX0_staysAfterTurn_X0_catchMole
set_option maxRecDepth 20000 in
theorem ggX0_staysAfterTurn_X0_finishTrail : GoodIn wsX0_staysAfterTurn wsX0_finishTrail := (gi_cons (lg_wsX0_staysAfterTurn_1 _ (List.mem_of_getElem? (i := 21) rfl)) (goodIn_app (goodIn_app (goodIn_app (goodIn_app (gi_cons (lg_wsX0_staysAfterTurn_1 _ (List.mem_of_getElem? (i := 22) rfl)) (gi_cons (lg_wsX0_staysAfterTurn_1 _ (List.mem_of_getElem? (i := 23) rfl)) (gi_cons (lg_wsX0_staysAfterTurn_0 _ (List.mem_of_getElem? (i := 8) rfl)) (gi_cons (lg_wsX0_staysAfterTurn_0 _ (List.mem_of_getElem? (i := 3) rfl)) (gi_cons (lg_wsX0_staysAfterTurn_0 _ (List.mem_of_getElem? (i := 9) rfl)) (gi_cons (lg_wsX0_staysAfterTurn_0 _ (List.mem_of_getElem? (i := 10) rfl)) (gi_cons (lg_wsX0_staysAfterTurn_0 _ (List.mem_of_getElem? (i := 11) rfl)) (gi_cons (lg_wsX0_staysAfterTurn_0 _ (List.mem_of_getElem? (i := 12) rfl)) (gi_cons (lg_wsX0_staysAfterTurn_0 _ (List.mem_of_getElem? (i := 13) rfl)) (gi_cons (lg_wsX0_staysAfterTurn_0 _ (List.mem_of_getElem? (i := 14) rfl)) (gi_cons (lg_wsX0_staysAfterTurn_0 _ (List.mem_of_getElem? (i := 15) rfl)) (gi_cons (lg_wsX0_staysAfterTurn_2 _ (List.mem_of_getElem? (i := 0) rfl)) (gi_cons (lg_wsX0_staysAfterTurn_2 _ (List.mem_of_getElem? (i := 1) rfl)) (gi_cons (lg_wsX0_staysAfterTurn_2 _ (List.mem_of_getElem? (i := 2) rfl)) (gi_cons (lg_wsX0_staysAfterTurn_2 _ (List.mem_of_getElem? (i := 3) rfl)) (gi_cons (lg_wsX0_staysAfterTurn_2 _ (List.mem_of_getElem? (i := 4) rfl)) (gi_cons (lg_wsX0_staysAfterTurn_2 _ (List.mem_of_getElem? (i := 5) rfl)) (gi_cons (lg_wsX0_staysAfterTurn_2 _ (List.mem_of_getElem? (i := 6) rfl)) (gi_cons (lg_wsX0_staysAfterTurn_2 _ (List.mem_of_getElem? (i := 7) rfl)) (gi_cons (lg_wsX0_staysAfterTurn_2 _ (List.mem_of_getElem? (i := 8) rfl)) (gi_cons (lg_wsX0_staysAfterTurn_2 _ (List.mem_of_getElem? (i := 9) rfl)) (gi_cons (lg_wsX0_staysAfterTurn_2 _ (List.mem_of_getElem? (i := 10) rfl)) (gi_cons (lg_wsX0_staysAfterTurn_2 _ (List.mem_of_getElem? (i := 11) rfl)) (gi_cons (lg_wsX0_staysAfterTurn_2 _ (List.mem_of_getElem? (i := 12) rfl)) gi_nil)))))))))))))))))))))))) (gi_cons (lg_wsX0_staysAfterTurn_2 _ (List.mem_of_getElem? (i := 13) rfl)) (gi_cons (lg_wsX0_staysAfterTurn_2 _ (List.mem_of_getElem? (i := 14) rfl)) (gi_cons (lg_wsX0_staysAfterTurn_2 _ (List.mem_of_getElem? (i := 15) rfl)) (gi_cons (lg_wsX0_staysAfterTurn_2 _ (List.mem_of_getElem? (i := 16) rfl)) (gi_cons (lg_wsX0_staysAfterTurn_2 _ (List.mem_of_getElem? (i := 17) rfl)) (gi_cons (lg_wsX0_staysAfterTurn_2 _ (List.mem_of_getElem? (i := 18) rfl)) (gi_cons (lg_wsX0_staysAfterTurn_2 _ (List.mem_of_getElem? (i := 19) rfl)) (gi_cons (lg_wsX0_staysAfterTurn_2 _ (List.mem_of_getElem? (i := 20) rfl)) gi_nil))))))))) ls_wsX0_staysAfterTurn_0) ls_wsX0_staysAfterTurn_1) ls_wsX0_staysAfterTurn_2))
set_option maxRecDepth 20000 in
theorem gX0_staysAfterTurn_X0_finishTrail : GoodIn wsX0_staysAfterTurn (wsV RX0 159 RX0 yX0_finishTrail wsX0_finishTrail) := goodIn_app (gi_cons (lg_wsX0_staysAfterTurn_1 _ (List.mem_of_getElem? (i := 18) rfl)) (gi_cons (lg_wsX0_staysAfterTurn_1 _ (List.mem_of_getElem? (i := 19) rfl)) (gi_cons (lg_wsX0_staysAfterTurn_1 _ (List.mem_of_getElem? (i := 20) rfl)) (gi_cons (lg_wsX0_staysAfterTurn_1 _ (List.mem_of_getElem? (i := 14) rfl)) gi_nil)))) ggX0_staysAfterTurn_X0_finishTrail
set_option maxRecDepth 20000 in
theorem ggX0_staysAfterTurn_X0_ensureMound : GoodIn wsX0_staysAfterTurn wsX0_ensureMound := (gi_cons (lg_wsX0_staysAfterTurn_3 _ (List.mem_of_getElem? (i := 0) rfl)) (goodIn_app (goodIn_app (goodIn_app (goodIn_app (gi_cons (lg_wsX0_staysAfterTurn_0 _ (List.mem_of_getElem? (i := 7) rfl)) (gi_cons (lg_wsX0_staysAfterTurn_3 _ (List.mem_of_getElem? (i := 1) rfl)) (gi_cons (lg_wsX0_staysAfterTurn_1 _ (List.mem_of_getElem? (i := 16) rfl)) (gi_cons (lg_wsX0_staysAfterTurn_0 _ (List.mem_of_getElem? (i := 0) rfl)) (gi_cons (lg_wsX0_staysAfterTurn_1 _ (List.mem_of_getElem? (i := 22) rfl)) (gi_cons (lg_wsX0_staysAfterTurn_1 _ (List.mem_of_getElem? (i := 23) rfl)) (gi_cons (lg_wsX0_staysAfterTurn_3 _ (List.mem_of_getElem? (i := 2) rfl)) (gi_cons (lg_wsX0_staysAfterTurn_3 _ (List.mem_of_getElem? (i := 3) rfl)) (gi_cons (lg_wsX0_staysAfterTurn_3 _ (List.mem_of_getElem? (i := 4) rfl)) (gi_cons (lg_wsX0_staysAfterTurn_1 _ (List.mem_of_getElem? (i := 14) rfl)) (gi_cons (lg_wsX0_staysAfterTurn_3 _ (List.mem_of_getElem? (i := 5) rfl)) (gi_cons (lg_wsX0_staysAfterTurn_3 _ (List.mem_of_getElem? (i := 6) rfl)) (gi_cons (lg_wsX0_staysAfterTurn_3 _ (List.mem_of_getElem? (i := 7) rfl)) (gi_cons (lg_wsX0_staysAfterTurn_3 _ (List.mem_of_getElem? (i := 8) rfl)) (gi_cons (lg_wsX0_staysAfterTurn_3 _ (List.mem_of_getElem? (i := 9) rfl)) (gi_cons (lg_wsX0_staysAfterTurn_3 _ (List.mem_of_getElem? (i := 10) rfl)) (gi_cons (lg_wsX0_staysAfterTurn_3 _ (List.mem_of_getElem? (i := 11) rfl)) (gi_cons (lg_wsX0_staysAfterTurn_2 _ (List.mem_of_getElem? (i := 7) rfl)) (gi_cons (lg_wsX0_staysAfterTurn_3 _ (List.mem_of_getElem? (i := 12) rfl)) (gi_cons (lg_wsX0_staysAfterTurn_2 _ (List.mem_of_getElem? (i := 12) rfl)) (gi_cons (lg_wsX0_staysAfterTurn_2 _ (List.mem_of_getElem? (i := 9) rfl)) (gi_cons (lg_wsX0_staysAfterTurn_3 _ (List.mem_of_getElem? (i := 13) rfl)) (gi_cons (lg_wsX0_staysAfterTurn_3 _ (List.mem_of_getElem? (i := 14) rfl)) (gi_cons (lg_wsX0_staysAfterTurn_3 _ (List.mem_of_getElem? (i := 15) rfl)) gi_nil)))))))))))))))))))))))) (goodIn_app (gi_cons (lg_wsX0_staysAfterTurn_3 _ (List.mem_of_getElem? (i := 16) rfl)) (gi_cons (lg_wsX0_staysAfterTurn_2 _ (List.mem_of_getElem? (i := 11) rfl)) (gi_cons (lg_wsX0_staysAfterTurn_3 _ (List.mem_of_getElem? (i := 17) rfl)) (gi_cons (lg_wsX0_staysAfterTurn_3 _ (List.mem_of_getElem? (i := 18) rfl)) (gi_cons (lg_wsX0_staysAfterTurn_3 _ (List.mem_of_getElem? (i := 19) rfl)) (gi_cons (lg_wsX0_staysAfterTurn_3 _ (List.mem_of_getElem? (i := 20) rfl)) (gi_cons (lg_wsX0_staysAfterTurn_2 _ (List.mem_of_getElem? (i := 10) rfl)) (gi_cons (lg_wsX0_staysAfterTurn_3 _ (List.mem_of_getElem? (i := 21) rfl)) (gi_cons (lg_wsX0_staysAfterTurn_3 _ (List.mem_of_getElem? (i := 22) rfl)) (gi_cons (lg_wsX0_staysAfterTurn_3 _ (List.mem_of_getElem? (i := 23) rfl)) (gi_cons (lg_wsX0_staysAfterTurn_4 _ (List.mem_of_getElem? (i := 0) rfl)) (gi_cons (lg_wsX0_staysAfterTurn_4 _ (List.mem_of_getElem? (i := 1) rfl)) (gi_cons (lg_wsX0_staysAfterTurn_4 _ (List.mem_of_getElem? (i := 2) rfl)) (gi_cons (lg_wsX0_staysAfterTurn_2 _ (List.mem_of_getElem? (i := 4) rfl)) (gi_cons (lg_wsX0_staysAfterTurn_2 _ (List.mem_of_getElem? (i := 5) rfl)) (gi_cons (lg_wsX0_staysAfterTurn_2 _ (List.mem_of_getElem? (i := 6) rfl)) (gi_cons (lg_wsX0_staysAfterTurn_2 _ (List.mem_of_getElem? (i := 8) rfl)) (gi_cons (lg_wsX0_staysAfterTurn_2 _ (List.mem_of_getElem? (i := 13) rfl)) (gi_cons (lg_wsX0_staysAfterTurn_2 _ (List.mem_of_getElem? (i := 14) rfl)) (gi_cons (lg_wsX0_staysAfterTurn_2 _ (List.mem_of_getElem? (i := 15) rfl)) (gi_cons (lg_wsX0_staysAfterTurn_2 _ (List.mem_of_getElem? (i := 16) rfl)) (gi_cons (lg_wsX0_staysAfterTurn_4 _ (List.mem_of_getElem? (i := 3) rfl)) (gi_cons (lg_wsX0_staysAfterTurn_4 _ (List.mem_of_getElem? (i := 4) rfl)) (gi_cons (lg_wsX0_staysAfterTurn_4 _ (List.mem_of_getElem? (i := 5) rfl)) gi_nil)))))))))))))))))))))))) (gi_cons (lg_wsX0_staysAfterTurn_4 _ (List.mem_of_getElem? (i := 6) rfl)) (gi_cons (lg_wsX0_staysAfterTurn_4 _ (List.mem_of_getElem? (i := 7) rfl)) (gi_cons (lg_wsX0_staysAfterTurn_4 _ (List.mem_of_getElem? (i := 8) rfl)) (gi_cons (lg_wsX0_staysAfterTurn_4 _ (List.mem_of_getElem? (i := 9) rfl)) (gi_cons (lg_wsX0_staysAfterTurn_4 _ (List.mem_of_getElem? (i := 10) rfl)) (gi_cons (lg_wsX0_staysAfterTurn_2 _ (List.mem_of_getElem? (i := 0) rfl)) (gi_cons (lg_wsX0_staysAfterTurn_2 _ (List.mem_of_getElem? (i := 1) rfl)) (gi_cons (lg_wsX0_staysAfterTurn_2 _ (List.mem_of_getElem? (i := 2) rfl)) (gi_cons (lg_wsX0_staysAfterTurn_0 _ (List.mem_of_getElem? (i := 12) rfl)) (gi_cons (lg_wsX0_staysAfterTurn_2 _ (List.mem_of_getElem? (i := 3) rfl)) (gi_cons (lg_wsX0_staysAfterTurn_0 _ (List.mem_of_getElem? (i := 15) rfl)) (gi_cons (lg_wsX0_staysAfterTurn_0 _ (List.mem_of_getElem? (i := 14) rfl)) (gi_cons (lg_wsX0_staysAfterTurn_4 _ (List.mem_of_getElem? (i := 11) rfl)) (gi_cons (lg_wsX0_staysAfterTurn_4 _ (List.mem_of_getElem? (i := 12) rfl)) (gi_cons (lg_wsX0_staysAfterTurn_4 _ (List.mem_of_getElem? (i := 13) rfl)) (gi_cons (lg_wsX0_staysAfterTurn_4 _ (List.mem_of_getElem? (i := 14) rfl)) gi_nil)))))))))))))))))) ls_wsX0_staysAfterTurn_0) ls_wsX0_staysAfterTurn_1) ls_wsX0_staysAfterTurn_2))
set_option maxRecDepth 20000 in
theorem gX0_staysAfterTurn_X0_ensureMound : GoodIn wsX0_staysAfterTurn (wsV RX0 96 RX0 yX0_ensureMound wsX0_ensureMound) := goodIn_app (gi_cons (lg_wsX0_staysAfterTurn_2 _ (List.mem_of_getElem? (i := 21) rfl)) (gi_cons (lg_wsX0_staysAfterTurn_2 _ (List.mem_of_getElem? (i := 22) rfl)) (gi_cons (lg_wsX0_staysAfterTurn_2 _ (List.mem_of_getElem? (i := 23) rfl)) (gi_cons (lg_wsX0_staysAfterTurn_1 _ (List.mem_of_getElem? (i := 14) rfl)) gi_nil)))) ggX0_staysAfterTurn_X0_ensureMound
theorem dX0_staysAfterTurn_0 : decode cX0_staysAfterTurn 0 = .ok (.aload_n 0, 1) := by decide +kernel
theorem dX0_staysAfterTurn_1 : decode cX0_staysAfterTurn 1 = .ok (.getfield 34, 3) := by decide +kernel
theorem dX0_staysAfterTurn_4 : decode cX0_staysAfterTurn 4 = .ok (.iload_n 1, 1) := by decide +kernel
theorem dX0_staysAfterTurn_5 : decode cX0_staysAfterTurn 5 = .ok (.aaload, 1) := by decide +kernel
theorem dX0_staysAfterTurn_6 : decode cX0_staysAfterTurn 6 = .ok (.astore_n 2, 1) := by decide +kernel
theorem dX0_staysAfterTurn_7 : decode cX0_staysAfterTurn 7 = .ok (.aload_n 2, 1) := by decide +kernel
theorem dX0_staysAfterTurn_8 : decode cX0_staysAfterTurn 8 = .ok (.getfield 84, 3) := by decide +kernel
theorem dX0_staysAfterTurn_11 : decode cX0_staysAfterTurn 11 = .ok (.ifCond .ne 5, 3) := by decide +kernel
theorem dX0_staysAfterTurn_14 : decode cX0_staysAfterTurn 14 = .ok (.iconst 1, 1) := by decide +kernel
theorem dX0_staysAfterTurn_15 : decode cX0_staysAfterTurn 15 = .ok (.ireturn, 1) := by decide +kernel
theorem dX0_staysAfterTurn_16 : decode cX0_staysAfterTurn 16 = .ok (.aload_n 2, 1) := by decide +kernel
theorem dX0_staysAfterTurn_17 : decode cX0_staysAfterTurn 17 = .ok (.invokevirtual 77, 3) := by decide +kernel
theorem dX0_staysAfterTurn_20 : decode cX0_staysAfterTurn 20 = .ok (.aload_n 2, 1) := by decide +kernel
theorem dX0_staysAfterTurn_21 : decode cX0_staysAfterTurn 21 = .ok (.getfield 144, 3) := by decide +kernel
theorem dX0_staysAfterTurn_24 : decode cX0_staysAfterTurn 24 = .ok (.iconst 0, 1) := by decide +kernel
theorem dX0_staysAfterTurn_25 : decode cX0_staysAfterTurn 25 = .ok (.iaload, 1) := by decide +kernel
theorem dX0_staysAfterTurn_26 : decode cX0_staysAfterTurn 26 = .ok (.invokestatic 147, 3) := by decide +kernel
theorem dX0_staysAfterTurn_29 : decode cX0_staysAfterTurn 29 = .ok (.istore_n 3, 1) := by decide +kernel
theorem dX0_staysAfterTurn_30 : decode cX0_staysAfterTurn 30 = .ok (.iload_n 3, 1) := by decide +kernel
theorem dX0_staysAfterTurn_31 : decode cX0_staysAfterTurn 31 = .ok (.iconst (-1), 1) := by decide +kernel
theorem dX0_staysAfterTurn_32 : decode cX0_staysAfterTurn 32 = .ok (.if_icmp .ne 9, 3) := by decide +kernel
theorem dX0_staysAfterTurn_35 : decode cX0_staysAfterTurn 35 = .ok (.aload_n 2, 1) := by decide +kernel
theorem dX0_staysAfterTurn_36 : decode cX0_staysAfterTurn 36 = .ok (.invokevirtual 150, 3) := by decide +kernel
theorem dX0_staysAfterTurn_39 : decode cX0_staysAfterTurn 39 = .ok (.iconst 1, 1) := by decide +kernel
theorem dX0_staysAfterTurn_40 : decode cX0_staysAfterTurn 40 = .ok (.ireturn, 1) := by decide +kernel
theorem dX0_staysAfterTurn_41 : decode cX0_staysAfterTurn 41 = .ok (.aload_n 2, 1) := by decide +kernel
theorem dX0_staysAfterTurn_42 : decode cX0_staysAfterTurn 42 = .ok (.dup, 1) := by decide +kernel
theorem dX0_staysAfterTurn_43 : decode cX0_staysAfterTurn 43 = .ok (.getfield 87, 3) := by decide +kernel
theorem dX0_staysAfterTurn_46 : decode cX0_staysAfterTurn 46 = .ok (.iconst 1, 1) := by decide +kernel
theorem dX0_staysAfterTurn_47 : decode cX0_staysAfterTurn 47 = .ok (.isub, 1) := by decide +kernel
theorem dX0_staysAfterTurn_48 : decode cX0_staysAfterTurn 48 = .ok (.putfield 87, 3) := by decide +kernel
theorem dX0_staysAfterTurn_51 : decode cX0_staysAfterTurn 51 = .ok (.aload_n 0, 1) := by decide +kernel
theorem dX0_staysAfterTurn_52 : decode cX0_staysAfterTurn 52 = .ok (.getfield 18, 3) := by decide +kernel
theorem dX0_staysAfterTurn_55 : decode cX0_staysAfterTurn 55 = .ok (.iload_n 3, 1) := by decide +kernel
theorem dX0_staysAfterTurn_56 : decode cX0_staysAfterTurn 56 = .ok (.iaload, 1) := by decide +kernel
theorem dX0_staysAfterTurn_57 : decode cX0_staysAfterTurn 57 = .ok (.ifCond .le 26, 3) := by decide +kernel
theorem dX0_staysAfterTurn_60 : decode cX0_staysAfterTurn 60 = .ok (.aload_n 0, 1) := by decide +kernel
theorem dX0_staysAfterTurn_61 : decode cX0_staysAfterTurn 61 = .ok (.getfield 18, 3) := by decide +kernel
theorem dX0_staysAfterTurn_64 : decode cX0_staysAfterTurn 64 = .ok (.iload_n 3, 1) := by decide +kernel
theorem dX0_staysAfterTurn_65 : decode cX0_staysAfterTurn 65 = .ok (.dup2, 1) := by decide +kernel
theorem dX0_staysAfterTurn_66 : decode cX0_staysAfterTurn 66 = .ok (.iaload, 1) := by decide +kernel
theorem dX0_staysAfterTurn_67 : decode cX0_staysAfterTurn 67 = .ok (.iconst 1, 1) := by decide +kernel
theorem dX0_staysAfterTurn_68 : decode cX0_staysAfterTurn 68 = .ok (.isub, 1) := by decide +kernel
theorem dX0_staysAfterTurn_69 : decode cX0_staysAfterTurn 69 = .ok (.iastore, 1) := by decide +kernel
theorem dX0_staysAfterTurn_70 : decode cX0_staysAfterTurn 70 = .ok (.aload_n 0, 1) := by decide +kernel
theorem dX0_staysAfterTurn_71 : decode cX0_staysAfterTurn 71 = .ok (.dup, 1) := by decide +kernel
theorem dX0_staysAfterTurn_72 : decode cX0_staysAfterTurn 72 = .ok (.getfield 68, 3) := by decide +kernel
theorem dX0_staysAfterTurn_75 : decode cX0_staysAfterTurn 75 = .ok (.iconst 1, 1) := by decide +kernel
theorem dX0_staysAfterTurn_76 : decode cX0_staysAfterTurn 76 = .ok (.iadd, 1) := by decide +kernel
theorem dX0_staysAfterTurn_77 : decode cX0_staysAfterTurn 77 = .ok (.putfield 68, 3) := by decide +kernel
theorem dX0_staysAfterTurn_80 : decode cX0_staysAfterTurn 80 = .ok (.goto 55, 3) := by decide +kernel
theorem dX0_staysAfterTurn_83 : decode cX0_staysAfterTurn 83 = .ok (.aload_n 2, 1) := by decide +kernel
theorem dX0_staysAfterTurn_84 : decode cX0_staysAfterTurn 84 = .ok (.invokevirtual 150, 3) := by decide +kernel
theorem dX0_staysAfterTurn_87 : decode cX0_staysAfterTurn 87 = .ok (.aload_n 2, 1) := by decide +kernel
theorem dX0_staysAfterTurn_88 : decode cX0_staysAfterTurn 88 = .ok (.iload_n 3, 1) := by decide +kernel
theorem dX0_staysAfterTurn_89 : decode cX0_staysAfterTurn 89 = .ok (.invokevirtual 153, 3) := by decide +kernel
theorem dX0_staysAfterTurn_92 : decode cX0_staysAfterTurn 92 = .ok (.aload_n 0, 1) := by decide +kernel
theorem dX0_staysAfterTurn_93 : decode cX0_staysAfterTurn 93 = .ok (.getfield 22, 3) := by decide +kernel
theorem dX0_staysAfterTurn_96 : decode cX0_staysAfterTurn 96 = .ok (.iload_n 3, 1) := by decide +kernel
theorem dX0_staysAfterTurn_97 : decode cX0_staysAfterTurn 97 = .ok (.iaload, 1) := by decide +kernel
theorem dX0_staysAfterTurn_98 : decode cX0_staysAfterTurn 98 = .ok (.istore 4, 2) := by decide +kernel
theorem dX0_staysAfterTurn_100 : decode cX0_staysAfterTurn 100 = .ok (.aload_n 0, 1) := by decide +kernel
theorem dX0_staysAfterTurn_101 : decode cX0_staysAfterTurn 101 = .ok (.getfield 22, 3) := by decide +kernel
theorem dX0_staysAfterTurn_104 : decode cX0_staysAfterTurn 104 = .ok (.iload_n 3, 1) := by decide +kernel
theorem dX0_staysAfterTurn_105 : decode cX0_staysAfterTurn 105 = .ok (.iconst (-1), 1) := by decide +kernel
theorem dX0_staysAfterTurn_106 : decode cX0_staysAfterTurn 106 = .ok (.iastore, 1) := by decide +kernel
theorem dX0_staysAfterTurn_107 : decode cX0_staysAfterTurn 107 = .ok (.iload 4, 2) := by decide +kernel
theorem dX0_staysAfterTurn_109 : decode cX0_staysAfterTurn 109 = .ok (.ifCond .ne 10, 3) := by decide +kernel
theorem dX0_staysAfterTurn_112 : decode cX0_staysAfterTurn 112 = .ok (.aload_n 0, 1) := by decide +kernel
theorem dX0_staysAfterTurn_113 : decode cX0_staysAfterTurn 113 = .ok (.iload_n 1, 1) := by decide +kernel
theorem dX0_staysAfterTurn_114 : decode cX0_staysAfterTurn 114 = .ok (.invokevirtual 156, 3) := by decide +kernel
theorem dX0_staysAfterTurn_117 : decode cX0_staysAfterTurn 117 = .ok (.iconst 0, 1) := by decide +kernel
theorem dX0_staysAfterTurn_118 : decode cX0_staysAfterTurn 118 = .ok (.ireturn, 1) := by decide +kernel
theorem dX0_staysAfterTurn_119 : decode cX0_staysAfterTurn 119 = .ok (.aload_n 0, 1) := by decide +kernel
theorem dX0_staysAfterTurn_120 : decode cX0_staysAfterTurn 120 = .ok (.getfield 9, 3) := by decide +kernel
theorem dX0_staysAfterTurn_123 : decode cX0_staysAfterTurn 123 = .ok (.iload_n 3, 1) := by decide +kernel
theorem dX0_staysAfterTurn_124 : decode cX0_staysAfterTurn 124 = .ok (.baload, 1) := by decide +kernel
theorem dX0_staysAfterTurn_125 : decode cX0_staysAfterTurn 125 = .ok (.ifCond .eq 10, 3) := by decide +kernel
theorem dX0_staysAfterTurn_128 : decode cX0_staysAfterTurn 128 = .ok (.aload_n 0, 1) := by decide +kernel
theorem dX0_staysAfterTurn_129 : decode cX0_staysAfterTurn 129 = .ok (.aload_n 2, 1) := by decide +kernel
theorem dX0_staysAfterTurn_130 : decode cX0_staysAfterTurn 130 = .ok (.invokevirtual 159, 3) := by decide +kernel
theorem dX0_staysAfterTurn_133 : decode cX0_staysAfterTurn 133 = .ok (.iconst 1, 1) := by decide +kernel
theorem dX0_staysAfterTurn_134 : decode cX0_staysAfterTurn 134 = .ok (.ireturn, 1) := by decide +kernel
theorem dX0_staysAfterTurn_135 : decode cX0_staysAfterTurn 135 = .ok (.aload_n 2, 1) := by decide +kernel
theorem dX0_staysAfterTurn_136 : decode cX0_staysAfterTurn 136 = .ok (.getfield 87, 3) := by decide +kernel
theorem dX0_staysAfterTurn_139 : decode cX0_staysAfterTurn 139 = .ok (.ifCond .gt 19, 3) := by decide +kernel
theorem dX0_staysAfterTurn_142 : decode cX0_staysAfterTurn 142 = .ok (.aload_n 0, 1) := by decide +kernel
theorem dX0_staysAfterTurn_143 : decode cX0_staysAfterTurn 143 = .ok (.aload_n 2, 1) := by decide +kernel
theorem dX0_staysAfterTurn_144 : decode cX0_staysAfterTurn 144 = .ok (.invokevirtual 77, 3) := by decide +kernel
theorem dX0_staysAfterTurn_147 : decode cX0_staysAfterTurn 147 = .ok (.invokevirtual 96, 3) := by decide +kernel
theorem dX0_staysAfterTurn_150 : decode cX0_staysAfterTurn 150 = .ok (.aload_n 2, 1) := by decide +kernel
theorem dX0_staysAfterTurn_151 : decode cX0_staysAfterTurn 151 = .ok (.aload_n 0, 1) := by decide +kernel
theorem dX0_staysAfterTurn_152 : decode cX0_staysAfterTurn 152 = .ok (.getfield 38, 3) := by decide +kernel
theorem dX0_staysAfterTurn_155 : decode cX0_staysAfterTurn 155 = .ok (.putfield 87, 3) := by decide +kernel
theorem dX0_staysAfterTurn_158 : decode cX0_staysAfterTurn 158 = .ok (.iconst 1, 1) := by decide +kernel
theorem dX0_staysAfterTurn_159 : decode cX0_staysAfterTurn 159 = .ok (.ireturn, 1) := by decide +kernel
theorem lg_wsX0_finishTrail_0 : GoodIn wsX0_finishTrail wsX0_finishTrail_r1 := goodIn_sub (fun _ h => (List.mem_cons_of_mem _ (List.mem_append_left _ (List.mem_append_left _ (List.mem_append_left _ (List.mem_append_left _ h)))))) (by decide +kernel)
theorem lg_wsX0_finishTrail_1 : GoodIn wsX0_finishTrail wsX0_finishTrail_r2 := goodIn_sub (fun _ h => (List.mem_cons_of_mem _ (List.mem_append_left _ (List.mem_append_left _ (List.mem_append_left _ (List.mem_append_right _ h)))))) (by decide +kernel)
theorem ls_wsX0_finishTrail_0 : GoodIn wsX0_finishTrail wsX00 := goodIn_sub (fun _ h => (List.mem_cons_of_mem _ (List.mem_append_left _ (List.mem_append_left _ (List.mem_append_right _ h))))) (by decide +kernel)
theorem ls_wsX0_finishTrail_1 : GoodIn wsX0_finishTrail wsX10 := goodIn_sub (fun _ h => (List.mem_cons_of_mem _ (List.mem_append_left _ (List.mem_append_right _ h)))) (by decide +kernel)
theorem ls_wsX0_finishTrail_2 : GoodIn wsX0_finishTrail wsX30 := goodIn_sub (fun _ h => (List.mem_cons_of_mem _ (List.mem_append_right _ h))) (by decide +kernel)
set_option maxRecDepth 20000 in
theorem ggX0_finishTrail_X1_place : GoodIn wsX0_finishTrail wsX1_place := (gi_cons (lg_wsX0_finishTrail_0 _ (List.mem_of_getElem? (i := 8) rfl)) (goodIn_app (gi_cons (lg_wsX0_finishTrail_0 _ (List.mem_of_getElem? (i := 9) rfl)) (gi_cons (lg_wsX0_finishTrail_0 _ (List.mem_of_getElem? (i := 10) rfl)) gi_nil)) ls_wsX0_finishTrail_1))
set_option maxRecDepth 20000 in
theorem gX0_finishTrail_X1_place : GoodIn wsX0_finishTrail (wsV RX0 77 RX1 yX1_place wsX1_place) := goodIn_app (gi_cons (lg_wsX0_finishTrail_0 _ (List.mem_of_getElem? (i := 4) rfl)) (gi_cons (lg_wsX0_finishTrail_0 _ (List.mem_of_getElem? (i := 5) rfl)) (gi_cons (lg_wsX0_finishTrail_0 _ (List.mem_of_getElem? (i := 6) rfl)) (gi_cons (lg_wsX0_finishTrail_0 _ (List.mem_of_getElem? (i := 7) rfl)) gi_nil)))) ggX0_finishTrail_X1_place
set_option maxRecDepth 20000 in
theorem ggX0_finishTrail_X1_firstIndex : GoodIn wsX0_finishTrail wsX1_firstIndex := (gi_cons (lg_wsX0_finishTrail_0 _ (List.mem_of_getElem? (i := 14) rfl)) (goodIn_app (gi_cons (lg_wsX0_finishTrail_0 _ (List.mem_of_getElem? (i := 10) rfl)) (gi_cons (lg_wsX0_finishTrail_0 _ (List.mem_of_getElem? (i := 9) rfl)) gi_nil)) ls_wsX0_finishTrail_1))
set_option maxRecDepth 20000 in
theorem gX0_finishTrail_X1_firstIndex : GoodIn wsX0_finishTrail (wsV RX0 109 RX1 yX1_firstIndex wsX1_firstIndex) := goodIn_app (gi_cons (lg_wsX0_finishTrail_0 _ (List.mem_of_getElem? (i := 11) rfl)) (gi_cons (lg_wsX0_finishTrail_0 _ (List.mem_of_getElem? (i := 12) rfl)) (gi_cons (lg_wsX0_finishTrail_0 _ (List.mem_of_getElem? (i := 13) rfl)) (gi_cons (lg_wsX0_finishTrail_0 _ (List.mem_of_getElem? (i := 7) rfl)) gi_nil)))) ggX0_finishTrail_X1_firstIndex
set_option maxRecDepth 20000 in
theorem ggX0_finishTrail_X3_addRow : GoodIn wsX0_finishTrail wsX3_addRow := (gi_cons (lg_wsX0_finishTrail_0 _ (List.mem_of_getElem? (i := 19) rfl)) (goodIn_app (gi_cons (lg_wsX0_finishTrail_0 _ (List.mem_of_getElem? (i := 20) rfl)) (gi_cons (lg_wsX0_finishTrail_0 _ (List.mem_of_getElem? (i := 21) rfl)) (gi_cons (lg_wsX0_finishTrail_0 _ (List.mem_of_getElem? (i := 22) rfl)) (gi_cons (lg_wsX0_finishTrail_0 _ (List.mem_of_getElem? (i := 23) rfl)) (gi_cons (lg_wsX0_finishTrail_1 _ (List.mem_of_getElem? (i := 0) rfl)) (gi_cons (lg_wsX0_finishTrail_1 _ (List.mem_of_getElem? (i := 1) rfl)) (gi_cons (lg_wsX0_finishTrail_1 _ (List.mem_of_getElem? (i := 2) rfl)) (gi_cons (lg_wsX0_finishTrail_1 _ (List.mem_of_getElem? (i := 3) rfl)) gi_nil)))))))) ls_wsX0_finishTrail_2))
set_option maxRecDepth 20000 in
theorem gX0_finishTrail_X3_addRow : GoodIn wsX0_finishTrail (wsV RX0 113 RX3 yX3_addRow wsX3_addRow) := goodIn_app (gi_cons (lg_wsX0_finishTrail_0 _ (List.mem_of_getElem? (i := 15) rfl)) (gi_cons (lg_wsX0_finishTrail_0 _ (List.mem_of_getElem? (i := 16) rfl)) (gi_cons (lg_wsX0_finishTrail_0 _ (List.mem_of_getElem? (i := 17) rfl)) (gi_cons (lg_wsX0_finishTrail_0 _ (List.mem_of_getElem? (i := 18) rfl)) gi_nil)))) ggX0_finishTrail_X3_addRow
set_option maxRecDepth 20000 in
theorem ggX0_finishTrail_X1_beginTrail : GoodIn wsX0_finishTrail wsX1_beginTrail := (gi_cons (lg_wsX0_finishTrail_1 _ (List.mem_of_getElem? (i := 7) rfl)) (goodIn_app (gi_cons (lg_wsX0_finishTrail_0 _ (List.mem_of_getElem? (i := 9) rfl)) (gi_cons (lg_wsX0_finishTrail_0 _ (List.mem_of_getElem? (i := 10) rfl)) gi_nil)) ls_wsX0_finishTrail_1))
set_option maxRecDepth 20000 in
theorem gX0_finishTrail_X1_beginTrail : GoodIn wsX0_finishTrail (wsV RX0 100 RX1 yX1_beginTrail wsX1_beginTrail) := goodIn_app (gi_cons (lg_wsX0_finishTrail_1 _ (List.mem_of_getElem? (i := 4) rfl)) (gi_cons (lg_wsX0_finishTrail_1 _ (List.mem_of_getElem? (i := 5) rfl)) (gi_cons (lg_wsX0_finishTrail_1 _ (List.mem_of_getElem? (i := 6) rfl)) (gi_cons (lg_wsX0_finishTrail_0 _ (List.mem_of_getElem? (i := 7) rfl)) gi_nil)))) ggX0_finishTrail_X1_beginTrail
theorem dX0_finishTrail_0 : decode cX0_finishTrail 0 = .ok (.aload_n 1, 1) := by decide +kernel
theorem dX0_finishTrail_1 : decode cX0_finishTrail 1 = .ok (.invokevirtual 77, 3) := by decide +kernel
theorem dX0_finishTrail_4 : decode cX0_finishTrail 4 = .ok (.istore_n 2, 1) := by decide +kernel
theorem dX0_finishTrail_5 : decode cX0_finishTrail 5 = .ok (.aload_n 1, 1) := by decide +kernel
theorem dX0_finishTrail_6 : decode cX0_finishTrail 6 = .ok (.iload_n 2, 1) := by decide +kernel
theorem dX0_finishTrail_7 : decode cX0_finishTrail 7 = .ok (.invokevirtual 109, 3) := by decide +kernel
theorem dX0_finishTrail_10 : decode cX0_finishTrail 10 = .ok (.istore_n 3, 1) := by decide +kernel
theorem dX0_finishTrail_11 : decode cX0_finishTrail 11 = .ok (.iload_n 3, 1) := by decide +kernel
theorem dX0_finishTrail_12 : decode cX0_finishTrail 12 = .ok (.ifCond .le 18, 3) := by decide +kernel
theorem dX0_finishTrail_15 : decode cX0_finishTrail 15 = .ok (.aload_n 0, 1) := by decide +kernel
theorem dX0_finishTrail_16 : decode cX0_finishTrail 16 = .ok (.getfield 28, 3) := by decide +kernel
theorem dX0_finishTrail_19 : decode cX0_finishTrail 19 = .ok (.aload_n 1, 1) := by decide +kernel
theorem dX0_finishTrail_20 : decode cX0_finishTrail 20 = .ok (.getfield 81, 3) := by decide +kernel
theorem dX0_finishTrail_23 : decode cX0_finishTrail 23 = .ok (.iconst 0, 1) := by decide +kernel
theorem dX0_finishTrail_24 : decode cX0_finishTrail 24 = .ok (.iload_n 3, 1) := by decide +kernel
theorem dX0_finishTrail_25 : decode cX0_finishTrail 25 = .ok (.iconst 1, 1) := by decide +kernel
theorem dX0_finishTrail_26 : decode cX0_finishTrail 26 = .ok (.iadd, 1) := by decide +kernel
theorem dX0_finishTrail_27 : decode cX0_finishTrail 27 = .ok (.invokevirtual 113, 3) := by decide +kernel
theorem dX0_finishTrail_30 : decode cX0_finishTrail 30 = .ok (.aload_n 1, 1) := by decide +kernel
theorem dX0_finishTrail_31 : decode cX0_finishTrail 31 = .ok (.iload_n 2, 1) := by decide +kernel
theorem dX0_finishTrail_32 : decode cX0_finishTrail 32 = .ok (.invokevirtual 100, 3) := by decide +kernel
theorem dX0_finishTrail_35 : decode cX0_finishTrail 35 = .ok (.aload_n 1, 1) := by decide +kernel
theorem dX0_finishTrail_36 : decode cX0_finishTrail 36 = .ok (.aload_n 0, 1) := by decide +kernel
theorem dX0_finishTrail_37 : decode cX0_finishTrail 37 = .ok (.getfield 38, 3) := by decide +kernel
theorem dX0_finishTrail_40 : decode cX0_finishTrail 40 = .ok (.putfield 87, 3) := by decide +kernel
theorem dX0_finishTrail_43 : decode cX0_finishTrail 43 = .ok (.return_, 1) := by decide +kernel
theorem lg_wsX0_digUp_0 : GoodIn wsX0_digUp wsX0_digUp_r1 := goodIn_sub (fun _ h => (List.mem_cons_of_mem _ (List.mem_append_left _ (List.mem_append_left _ (List.mem_append_left _ (List.mem_append_left _ h)))))) (by decide +kernel)
theorem lg_wsX0_digUp_1 : GoodIn wsX0_digUp wsX0_digUp_r2 := goodIn_sub (fun _ h => (List.mem_cons_of_mem _ (List.mem_append_left _ (List.mem_append_left _ (List.mem_append_left _ (List.mem_append_right _ (List.mem_append_left _ h))))))) (by decide +kernel)
theorem lg_wsX0_digUp_2 : GoodIn wsX0_digUp wsX0_digUp_r3 := goodIn_sub (fun _ h => (List.mem_cons_of_mem _ (List.mem_append_left _ (List.mem_append_left _ (List.mem_append_left _ (List.mem_append_right _ (List.mem_append_right _ (List.mem_append_left _ h)))))))) (by decide +kernel)
theorem lg_wsX0_digUp_3 : GoodIn wsX0_digUp wsX0_digUp_r4 := goodIn_sub (fun _ h => (List.mem_cons_of_mem _ (List.mem_append_left _ (List.mem_append_left _ (List.mem_append_left _ (List.mem_append_right _ (List.mem_append_right _ (List.mem_append_right _ h)))))))) (by decide +kernel)
theorem ls_wsX0_digUp_0 : GoodIn wsX0_digUp wsX00 := goodIn_sub (fun _ h => (List.mem_cons_of_mem _ (List.mem_append_left _ (List.mem_append_left _ (List.mem_append_right _ h))))) (by decide +kernel)
theorem ls_wsX0_digUp_1 : GoodIn wsX0_digUp wsX10 := goodIn_sub (fun _ h => (List.mem_cons_of_mem _ (List.mem_append_left _ (List.mem_append_right _ h)))) (by decide +kernel)
theorem ls_wsX0_digUp_2 : GoodIn wsX0_digUp wsX30 := goodIn_sub (fun _ h => (List.mem_cons_of_mem _ (List.mem_append_right _ h))) (by decide +kernel)
set_option maxRecDepth 20000 in
theorem ggX0_digUp_X1_place : GoodIn wsX0_digUp wsX1_place := (gi_cons (lg_wsX0_digUp_0 _ (List.mem_of_getElem? (i := 11) rfl)) (goodIn_app (gi_cons (lg_wsX0_digUp_0 _ (List.mem_of_getElem? (i := 12) rfl)) (gi_cons (lg_wsX0_digUp_0 _ (List.mem_of_getElem? (i := 13) rfl)) gi_nil)) ls_wsX0_digUp_1))
set_option maxRecDepth 20000 in
theorem gX0_digUp_X1_place : GoodIn wsX0_digUp (wsV RX0 77 RX1 yX1_place wsX1_place) := goodIn_app (gi_cons (lg_wsX0_digUp_0 _ (List.mem_of_getElem? (i := 7) rfl)) (gi_cons (lg_wsX0_digUp_0 _ (List.mem_of_getElem? (i := 8) rfl)) (gi_cons (lg_wsX0_digUp_0 _ (List.mem_of_getElem? (i := 9) rfl)) (gi_cons (lg_wsX0_digUp_0 _ (List.mem_of_getElem? (i := 10) rfl)) gi_nil)))) ggX0_digUp_X1_place
set_option maxRecDepth 20000 in
theorem ggX0_digUp_X0_catchMole : GoodIn wsX0_digUp wsX0_catchMole := (gi_cons (lg_wsX0_digUp_0 _ (List.mem_of_getElem? (i := 18) rfl)) (goodIn_app (gi_cons (lg_wsX0_digUp_0 _ (List.mem_of_getElem? (i := 5) rfl)) (gi_cons (lg_wsX0_digUp_0 _ (List.mem_of_getElem? (i := 4) rfl)) (gi_cons (lg_wsX0_digUp_0 _ (List.mem_of_getElem? (i := 3) rfl)) gi_nil))) ls_wsX0_digUp_0))
set_option maxRecDepth 20000 in
theorem gX0_digUp_X0_catchMole : GoodIn wsX0_digUp (wsV RX0 156 RX0 yX0_catchMole wsX0_catchMole) := goodIn_app (gi_cons (lg_wsX0_digUp_0 _ (List.mem_of_getElem? (i := 14) rfl)) (gi_cons (lg_wsX0_digUp_0 _ (List.mem_of_getElem? (i := 15) rfl)) (gi_cons (lg_wsX0_digUp_0 _ (List.mem_of_getElem? (i := 16) rfl)) (gi_cons (lg_wsX0_digUp_0 _ (List.mem_of_getElem? (i := 17) rfl)) gi_nil)))) ggX0_digUp_X0_catchMole
set_option maxRecDepth 20000 in
theorem ggX0_digUp_X0_dropTunnels : GoodIn wsX0_digUp wsX0_dropTunnels := (gi_cons (lg_wsX0_digUp_0 _ (List.mem_of_getElem? (i := 22) rfl)) (goodIn_app (goodIn_app (goodIn_app (gi_cons (lg_wsX0_digUp_0 _ (List.mem_of_getElem? (i := 23) rfl)) (gi_cons (lg_wsX0_digUp_1 _ (List.mem_of_getElem? (i := 0) rfl)) (gi_cons (lg_wsX0_digUp_1 _ (List.mem_of_getElem? (i := 1) rfl)) (gi_cons (lg_wsX0_digUp_1 _ (List.mem_of_getElem? (i := 2) rfl)) (gi_cons (lg_wsX0_digUp_1 _ (List.mem_of_getElem? (i := 3) rfl)) (gi_cons (lg_wsX0_digUp_1 _ (List.mem_of_getElem? (i := 4) rfl)) (gi_cons (lg_wsX0_digUp_1 _ (List.mem_of_getElem? (i := 5) rfl)) (gi_cons (lg_wsX0_digUp_1 _ (List.mem_of_getElem? (i := 6) rfl)) (gi_cons (lg_wsX0_digUp_1 _ (List.mem_of_getElem? (i := 7) rfl)) (gi_cons (lg_wsX0_digUp_1 _ (List.mem_of_getElem? (i := 8) rfl)) (gi_cons (lg_wsX0_digUp_1 _ (List.mem_of_getElem? (i := 9) rfl)) (gi_cons (lg_wsX0_digUp_1 _ (List.mem_of_getElem? (i := 10) rfl)) (gi_cons (lg_wsX0_digUp_1 _ (List.mem_of_getElem? (i := 11) rfl)) (gi_cons (lg_wsX0_digUp_1 _ (List.mem_of_getElem? (i := 12) rfl)) (gi_cons (lg_wsX0_digUp_1 _ (List.mem_of_getElem? (i := 13) rfl)) (gi_cons (lg_wsX0_digUp_1 _ (List.mem_of_getElem? (i := 14) rfl)) (gi_cons (lg_wsX0_digUp_1 _ (List.mem_of_getElem? (i := 15) rfl)) (gi_cons (lg_wsX0_digUp_1 _ (List.mem_of_getElem? (i := 16) rfl)) (gi_cons (lg_wsX0_digUp_1 _ (List.mem_of_getElem? (i := 17) rfl)) (gi_cons (lg_wsX0_digUp_1 _ (List.mem_of_getElem? (i := 18) rfl)) (gi_cons (lg_wsX0_digUp_1 _ (List.mem_of_getElem? (i := 19) rfl)) (gi_cons (lg_wsX0_digUp_1 _ (List.mem_of_getElem? (i := 20) rfl)) (gi_cons (lg_wsX0_digUp_1 _ (List.mem_of_getElem? (i := 21) rfl)) (gi_cons (lg_wsX0_digUp_1 _ (List.mem_of_getElem? (i := 22) rfl)) gi_nil)))))))))))))))))))))))) (gi_cons (lg_wsX0_digUp_1 _ (List.mem_of_getElem? (i := 23) rfl)) (gi_cons (lg_wsX0_digUp_2 _ (List.mem_of_getElem? (i := 0) rfl)) (gi_cons (lg_wsX0_digUp_2 _ (List.mem_of_getElem? (i := 1) rfl)) (gi_cons (lg_wsX0_digUp_2 _ (List.mem_of_getElem? (i := 2) rfl)) (gi_cons (lg_wsX0_digUp_2 _ (List.mem_of_getElem? (i := 3) rfl)) (gi_cons (lg_wsX0_digUp_2 _ (List.mem_of_getElem? (i := 4) rfl)) (gi_cons (lg_wsX0_digUp_2 _ (List.mem_of_getElem? (i := 5) rfl)) (gi_cons (lg_wsX0_digUp_2 _ (List.mem_of_getElem? (i := 6) rfl)) (gi_cons (lg_wsX0_digUp_2 _ (List.mem_of_getElem? (i := 7) rfl)) (gi_cons (lg_wsX0_digUp_2 _ (List.mem_of_getElem? (i := 8) rfl)) (gi_cons (lg_wsX0_digUp_2 _ (List.mem_of_getElem? (i := 9) rfl)) (gi_cons (lg_wsX0_digUp_2 _ (List.mem_of_getElem? (i := 10) rfl)) (gi_cons (lg_wsX0_digUp_2 _ (List.mem_of_getElem? (i := 11) rfl)) (gi_cons (lg_wsX0_digUp_2 _ (List.mem_of_getElem? (i := 12) rfl)) (gi_cons (lg_wsX0_digUp_2 _ (List.mem_of_getElem? (i := 13) rfl)) (gi_cons (lg_wsX0_digUp_2 _ (List.mem_of_getElem? (i := 14) rfl)) gi_nil))))))))))))))))) ls_wsX0_digUp_0) ls_wsX0_digUp_2))
set_option maxRecDepth 20000 in
theorem gX0_digUp_X0_dropTunnels : GoodIn wsX0_digUp (wsV RX0 162 RX0 yX0_dropTunnels wsX0_dropTunnels) := goodIn_app (gi_cons (lg_wsX0_digUp_0 _ (List.mem_of_getElem? (i := 19) rfl)) (gi_cons (lg_wsX0_digUp_0 _ (List.mem_of_getElem? (i := 20) rfl)) (gi_cons (lg_wsX0_digUp_0 _ (List.mem_of_getElem? (i := 21) rfl)) (gi_cons (lg_wsX0_digUp_0 _ (List.mem_of_getElem? (i := 17) rfl)) gi_nil)))) ggX0_digUp_X0_dropTunnels
set_option maxRecDepth 20000 in
theorem ggX0_digUp_X0_dropTrails : GoodIn wsX0_digUp wsX0_dropTrails := (gi_cons (lg_wsX0_digUp_2 _ (List.mem_of_getElem? (i := 18) rfl)) (goodIn_app (goodIn_app (goodIn_app (goodIn_app (gi_cons (lg_wsX0_digUp_0 _ (List.mem_of_getElem? (i := 4) rfl)) (gi_cons (lg_wsX0_digUp_0 _ (List.mem_of_getElem? (i := 5) rfl)) (gi_cons (lg_wsX0_digUp_2 _ (List.mem_of_getElem? (i := 19) rfl)) (gi_cons (lg_wsX0_digUp_2 _ (List.mem_of_getElem? (i := 20) rfl)) (gi_cons (lg_wsX0_digUp_2 _ (List.mem_of_getElem? (i := 21) rfl)) (gi_cons (lg_wsX0_digUp_2 _ (List.mem_of_getElem? (i := 22) rfl)) (gi_cons (lg_wsX0_digUp_2 _ (List.mem_of_getElem? (i := 23) rfl)) (gi_cons (lg_wsX0_digUp_3 _ (List.mem_of_getElem? (i := 0) rfl)) (gi_cons (lg_wsX0_digUp_0 _ (List.mem_of_getElem? (i := 10) rfl)) (gi_cons (lg_wsX0_digUp_3 _ (List.mem_of_getElem? (i := 1) rfl)) (gi_cons (lg_wsX0_digUp_0 _ (List.mem_of_getElem? (i := 13) rfl)) (gi_cons (lg_wsX0_digUp_0 _ (List.mem_of_getElem? (i := 12) rfl)) (gi_cons (lg_wsX0_digUp_0 _ (List.mem_of_getElem? (i := 7) rfl)) (gi_cons (lg_wsX0_digUp_0 _ (List.mem_of_getElem? (i := 8) rfl)) (gi_cons (lg_wsX0_digUp_0 _ (List.mem_of_getElem? (i := 9) rfl)) (gi_cons (lg_wsX0_digUp_0 _ (List.mem_of_getElem? (i := 11) rfl)) (gi_cons (lg_wsX0_digUp_3 _ (List.mem_of_getElem? (i := 2) rfl)) (gi_cons (lg_wsX0_digUp_3 _ (List.mem_of_getElem? (i := 3) rfl)) (gi_cons (lg_wsX0_digUp_3 _ (List.mem_of_getElem? (i := 4) rfl)) (gi_cons (lg_wsX0_digUp_3 _ (List.mem_of_getElem? (i := 5) rfl)) (gi_cons (lg_wsX0_digUp_3 _ (List.mem_of_getElem? (i := 6) rfl)) (gi_cons (lg_wsX0_digUp_3 _ (List.mem_of_getElem? (i := 7) rfl)) (gi_cons (lg_wsX0_digUp_3 _ (List.mem_of_getElem? (i := 8) rfl)) (gi_cons (lg_wsX0_digUp_0 _ (List.mem_of_getElem? (i := 17) rfl)) gi_nil)))))))))))))))))))))))) (goodIn_app (gi_cons (lg_wsX0_digUp_3 _ (List.mem_of_getElem? (i := 9) rfl)) (gi_cons (lg_wsX0_digUp_0 _ (List.mem_of_getElem? (i := 6) rfl)) (gi_cons (lg_wsX0_digUp_3 _ (List.mem_of_getElem? (i := 10) rfl)) (gi_cons (lg_wsX0_digUp_0 _ (List.mem_of_getElem? (i := 23) rfl)) (gi_cons (lg_wsX0_digUp_3 _ (List.mem_of_getElem? (i := 11) rfl)) (gi_cons (lg_wsX0_digUp_3 _ (List.mem_of_getElem? (i := 12) rfl)) (gi_cons (lg_wsX0_digUp_3 _ (List.mem_of_getElem? (i := 13) rfl)) (gi_cons (lg_wsX0_digUp_3 _ (List.mem_of_getElem? (i := 14) rfl)) (gi_cons (lg_wsX0_digUp_3 _ (List.mem_of_getElem? (i := 15) rfl)) (gi_cons (lg_wsX0_digUp_1 _ (List.mem_of_getElem? (i := 1) rfl)) (gi_cons (lg_wsX0_digUp_1 _ (List.mem_of_getElem? (i := 0) rfl)) (gi_cons (lg_wsX0_digUp_1 _ (List.mem_of_getElem? (i := 2) rfl)) (gi_cons (lg_wsX0_digUp_1 _ (List.mem_of_getElem? (i := 4) rfl)) (gi_cons (lg_wsX0_digUp_1 _ (List.mem_of_getElem? (i := 5) rfl)) (gi_cons (lg_wsX0_digUp_1 _ (List.mem_of_getElem? (i := 6) rfl)) (gi_cons (lg_wsX0_digUp_1 _ (List.mem_of_getElem? (i := 7) rfl)) (gi_cons (lg_wsX0_digUp_1 _ (List.mem_of_getElem? (i := 8) rfl)) (gi_cons (lg_wsX0_digUp_1 _ (List.mem_of_getElem? (i := 9) rfl)) (gi_cons (lg_wsX0_digUp_1 _ (List.mem_of_getElem? (i := 10) rfl)) (gi_cons (lg_wsX0_digUp_1 _ (List.mem_of_getElem? (i := 11) rfl)) (gi_cons (lg_wsX0_digUp_1 _ (List.mem_of_getElem? (i := 12) rfl)) (gi_cons (lg_wsX0_digUp_1 _ (List.mem_of_getElem? (i := 13) rfl)) (gi_cons (lg_wsX0_digUp_1 _ (List.mem_of_getElem? (i := 14) rfl)) (gi_cons (lg_wsX0_digUp_1 _ (List.mem_of_getElem? (i := 15) rfl)) gi_nil)))))))))))))))))))))))) (goodIn_app (gi_cons (lg_wsX0_digUp_1 _ (List.mem_of_getElem? (i := 16) rfl)) (gi_cons (lg_wsX0_digUp_1 _ (List.mem_of_getElem? (i := 17) rfl)) (gi_cons (lg_wsX0_digUp_1 _ (List.mem_of_getElem? (i := 18) rfl)) (gi_cons (lg_wsX0_digUp_1 _ (List.mem_of_getElem? (i := 19) rfl)) (gi_cons (lg_wsX0_digUp_1 _ (List.mem_of_getElem? (i := 20) rfl)) (gi_cons (lg_wsX0_digUp_1 _ (List.mem_of_getElem? (i := 21) rfl)) (gi_cons (lg_wsX0_digUp_1 _ (List.mem_of_getElem? (i := 22) rfl)) (gi_cons (lg_wsX0_digUp_1 _ (List.mem_of_getElem? (i := 23) rfl)) (gi_cons (lg_wsX0_digUp_2 _ (List.mem_of_getElem? (i := 0) rfl)) (gi_cons (lg_wsX0_digUp_2 _ (List.mem_of_getElem? (i := 1) rfl)) (gi_cons (lg_wsX0_digUp_2 _ (List.mem_of_getElem? (i := 2) rfl)) (gi_cons (lg_wsX0_digUp_2 _ (List.mem_of_getElem? (i := 3) rfl)) (gi_cons (lg_wsX0_digUp_2 _ (List.mem_of_getElem? (i := 4) rfl)) (gi_cons (lg_wsX0_digUp_2 _ (List.mem_of_getElem? (i := 5) rfl)) (gi_cons (lg_wsX0_digUp_2 _ (List.mem_of_getElem? (i := 6) rfl)) (gi_cons (lg_wsX0_digUp_2 _ (List.mem_of_getElem? (i := 7) rfl)) (gi_cons (lg_wsX0_digUp_2 _ (List.mem_of_getElem? (i := 8) rfl)) (gi_cons (lg_wsX0_digUp_2 _ (List.mem_of_getElem? (i := 9) rfl)) (gi_cons (lg_wsX0_digUp_2 _ (List.mem_of_getElem? (i := 10) rfl)) (gi_cons (lg_wsX0_digUp_3 _ (List.mem_of_getElem? (i := 16) rfl)) (gi_cons (lg_wsX0_digUp_3 _ (List.mem_of_getElem? (i := 17) rfl)) (gi_cons (lg_wsX0_digUp_3 _ (List.mem_of_getElem? (i := 18) rfl)) (gi_cons (lg_wsX0_digUp_3 _ (List.mem_of_getElem? (i := 19) rfl)) (gi_cons (lg_wsX0_digUp_2 _ (List.mem_of_getElem? (i := 11) rfl)) gi_nil)))))))))))))))))))))))) (gi_cons (lg_wsX0_digUp_2 _ (List.mem_of_getElem? (i := 12) rfl)) (gi_cons (lg_wsX0_digUp_2 _ (List.mem_of_getElem? (i := 13) rfl)) (gi_cons (lg_wsX0_digUp_2 _ (List.mem_of_getElem? (i := 14) rfl)) (gi_cons (lg_wsX0_digUp_3 _ (List.mem_of_getElem? (i := 20) rfl)) (gi_cons (lg_wsX0_digUp_3 _ (List.mem_of_getElem? (i := 21) rfl)) (gi_cons (lg_wsX0_digUp_3 _ (List.mem_of_getElem? (i := 22) rfl)) (gi_cons (lg_wsX0_digUp_3 _ (List.mem_of_getElem? (i := 23) rfl)) gi_nil)))))))))) ls_wsX0_digUp_0) ls_wsX0_digUp_1) ls_wsX0_digUp_2))
set_option maxRecDepth 20000 in
theorem gX0_digUp_X0_dropTrails : GoodIn wsX0_digUp (wsV RX0 165 RX0 yX0_dropTrails wsX0_dropTrails) := goodIn_app (gi_cons (lg_wsX0_digUp_2 _ (List.mem_of_getElem? (i := 15) rfl)) (gi_cons (lg_wsX0_digUp_2 _ (List.mem_of_getElem? (i := 16) rfl)) (gi_cons (lg_wsX0_digUp_2 _ (List.mem_of_getElem? (i := 17) rfl)) (gi_cons (lg_wsX0_digUp_0 _ (List.mem_of_getElem? (i := 17) rfl)) gi_nil)))) ggX0_digUp_X0_dropTrails
theorem dX0_digUp_0 : decode cX0_digUp 0 = .ok (.aload_n 0, 1) := by decide +kernel
theorem dX0_digUp_1 : decode cX0_digUp 1 = .ok (.getfield 15, 3) := by decide +kernel
theorem dX0_digUp_4 : decode cX0_digUp 4 = .ok (.iload_n 1, 1) := by decide +kernel
theorem dX0_digUp_5 : decode cX0_digUp 5 = .ok (.iconst 1, 1) := by decide +kernel
theorem dX0_digUp_6 : decode cX0_digUp 6 = .ok (.bastore, 1) := by decide +kernel
theorem dX0_digUp_7 : decode cX0_digUp 7 = .ok (.aload_n 0, 1) := by decide +kernel
theorem dX0_digUp_8 : decode cX0_digUp 8 = .ok (.getfield 18, 3) := by decide +kernel
theorem dX0_digUp_11 : decode cX0_digUp 11 = .ok (.iload_n 1, 1) := by decide +kernel
theorem dX0_digUp_12 : decode cX0_digUp 12 = .ok (.iconst 0, 1) := by decide +kernel
theorem dX0_digUp_13 : decode cX0_digUp 13 = .ok (.iastore, 1) := by decide +kernel
theorem dX0_digUp_14 : decode cX0_digUp 14 = .ok (.aload_n 0, 1) := by decide +kernel
theorem dX0_digUp_15 : decode cX0_digUp 15 = .ok (.getfield 22, 3) := by decide +kernel
theorem dX0_digUp_18 : decode cX0_digUp 18 = .ok (.iload_n 1, 1) := by decide +kernel
theorem dX0_digUp_19 : decode cX0_digUp 19 = .ok (.iconst (-1), 1) := by decide +kernel
theorem dX0_digUp_20 : decode cX0_digUp 20 = .ok (.iastore, 1) := by decide +kernel
theorem dX0_digUp_21 : decode cX0_digUp 21 = .ok (.aload_n 0, 1) := by decide +kernel
theorem dX0_digUp_22 : decode cX0_digUp 22 = .ok (.getfield 65, 3) := by decide +kernel
theorem dX0_digUp_25 : decode cX0_digUp 25 = .ok (.istore_n 2, 1) := by decide +kernel
theorem dX0_digUp_26 : decode cX0_digUp 26 = .ok (.aload_n 0, 1) := by decide +kernel
theorem dX0_digUp_27 : decode cX0_digUp 27 = .ok (.getfield 56, 3) := by decide +kernel
theorem dX0_digUp_30 : decode cX0_digUp 30 = .ok (.iconst 1, 1) := by decide +kernel
theorem dX0_digUp_31 : decode cX0_digUp 31 = .ok (.isub, 1) := by decide +kernel
theorem dX0_digUp_32 : decode cX0_digUp 32 = .ok (.istore_n 3, 1) := by decide +kernel
theorem dX0_digUp_33 : decode cX0_digUp 33 = .ok (.iload_n 3, 1) := by decide +kernel
theorem dX0_digUp_34 : decode cX0_digUp 34 = .ok (.ifCond .lt 27, 3) := by decide +kernel
theorem dX0_digUp_37 : decode cX0_digUp 37 = .ok (.aload_n 0, 1) := by decide +kernel
theorem dX0_digUp_38 : decode cX0_digUp 38 = .ok (.getfield 34, 3) := by decide +kernel
theorem dX0_digUp_41 : decode cX0_digUp 41 = .ok (.iload_n 3, 1) := by decide +kernel
theorem dX0_digUp_42 : decode cX0_digUp 42 = .ok (.aaload, 1) := by decide +kernel
theorem dX0_digUp_43 : decode cX0_digUp 43 = .ok (.invokevirtual 77, 3) := by decide +kernel
theorem dX0_digUp_46 : decode cX0_digUp 46 = .ok (.iload_n 1, 1) := by decide +kernel
theorem dX0_digUp_47 : decode cX0_digUp 47 = .ok (.if_icmp .ne 8, 3) := by decide +kernel
theorem dX0_digUp_50 : decode cX0_digUp 50 = .ok (.aload_n 0, 1) := by decide +kernel
theorem dX0_digUp_51 : decode cX0_digUp 51 = .ok (.iload_n 3, 1) := by decide +kernel
theorem dX0_digUp_52 : decode cX0_digUp 52 = .ok (.invokevirtual 156, 3) := by decide +kernel
theorem dX0_digUp_55 : decode cX0_digUp 55 = .ok (.iinc 3 (-1), 3) := by decide +kernel
theorem dX0_digUp_58 : decode cX0_digUp 58 = .ok (.goto (-25), 3) := by decide +kernel
theorem dX0_digUp_61 : decode cX0_digUp 61 = .ok (.aload_n 0, 1) := by decide +kernel
theorem dX0_digUp_62 : decode cX0_digUp 62 = .ok (.getfield 9, 3) := by decide +kernel
theorem dX0_digUp_65 : decode cX0_digUp 65 = .ok (.iload_n 1, 1) := by decide +kernel
theorem dX0_digUp_66 : decode cX0_digUp 66 = .ok (.iconst 0, 1) := by decide +kernel
theorem dX0_digUp_67 : decode cX0_digUp 67 = .ok (.bastore, 1) := by decide +kernel
theorem dX0_digUp_68 : decode cX0_digUp 68 = .ok (.aload_n 0, 1) := by decide +kernel
theorem dX0_digUp_69 : decode cX0_digUp 69 = .ok (.iload_n 1, 1) := by decide +kernel
theorem dX0_digUp_70 : decode cX0_digUp 70 = .ok (.invokevirtual 162, 3) := by decide +kernel
theorem dX0_digUp_73 : decode cX0_digUp 73 = .ok (.aload_n 0, 1) := by decide +kernel
theorem dX0_digUp_74 : decode cX0_digUp 74 = .ok (.iload_n 1, 1) := by decide +kernel
theorem dX0_digUp_75 : decode cX0_digUp 75 = .ok (.invokevirtual 165, 3) := by decide +kernel
theorem dX0_digUp_78 : decode cX0_digUp 78 = .ok (.aload_n 0, 1) := by decide +kernel
theorem dX0_digUp_79 : decode cX0_digUp 79 = .ok (.getfield 65, 3) := by decide +kernel
theorem dX0_digUp_82 : decode cX0_digUp 82 = .ok (.iload_n 2, 1) := by decide +kernel
theorem dX0_digUp_83 : decode cX0_digUp 83 = .ok (.isub, 1) := by decide +kernel
theorem dX0_digUp_84 : decode cX0_digUp 84 = .ok (.ireturn, 1) := by decide +kernel
theorem lg_wsX0_dropTunnels_0 : GoodIn wsX0_dropTunnels wsX0_dropTunnels_r1 := goodIn_sub (fun _ h => (List.mem_cons_of_mem _ (List.mem_append_left _ (List.mem_append_left _ (List.mem_append_left _ h))))) (by decide +kernel)
theorem lg_wsX0_dropTunnels_1 : GoodIn wsX0_dropTunnels wsX0_dropTunnels_r2 := goodIn_sub (fun _ h => (List.mem_cons_of_mem _ (List.mem_append_left _ (List.mem_append_left _ (List.mem_append_right _ h))))) (by decide +kernel)
theorem ls_wsX0_dropTunnels_0 : GoodIn wsX0_dropTunnels wsX00 := goodIn_sub (fun _ h => (List.mem_cons_of_mem _ (List.mem_append_left _ (List.mem_append_right _ h)))) (by decide +kernel)
theorem ls_wsX0_dropTunnels_1 : GoodIn wsX0_dropTunnels wsX30 := goodIn_sub (fun _ h => (List.mem_cons_of_mem _ (List.mem_append_right _ h))) (by decide +kernel)
set_option maxRecDepth 20000 in
theorem ggX0_dropTunnels_X3_empty : GoodIn wsX0_dropTunnels wsX3_empty := (gi_cons (lg_wsX0_dropTunnels_0 _ (List.mem_of_getElem? (i := 9) rfl)) (goodIn_app (gi_cons (lg_wsX0_dropTunnels_0 _ (List.mem_of_getElem? (i := 10) rfl)) (gi_cons (lg_wsX0_dropTunnels_0 _ (List.mem_of_getElem? (i := 11) rfl)) gi_nil)) ls_wsX0_dropTunnels_1))
set_option maxRecDepth 20000 in
theorem gX0_dropTunnels_X3_empty : GoodIn wsX0_dropTunnels (wsV RX0 120 RX3 yX3_empty wsX3_empty) := goodIn_app (gi_cons (lg_wsX0_dropTunnels_0 _ (List.mem_of_getElem? (i := 5) rfl)) (gi_cons (lg_wsX0_dropTunnels_0 _ (List.mem_of_getElem? (i := 6) rfl)) (gi_cons (lg_wsX0_dropTunnels_0 _ (List.mem_of_getElem? (i := 7) rfl)) (gi_cons (lg_wsX0_dropTunnels_0 _ (List.mem_of_getElem? (i := 8) rfl)) gi_nil)))) ggX0_dropTunnels_X3_empty
set_option maxRecDepth 20000 in
theorem ggX0_dropTunnels_X3_firstIndex : GoodIn wsX0_dropTunnels wsX3_firstIndex := (gi_cons (lg_wsX0_dropTunnels_0 _ (List.mem_of_getElem? (i := 15) rfl)) (goodIn_app (gi_cons (lg_wsX0_dropTunnels_0 _ (List.mem_of_getElem? (i := 16) rfl)) (gi_cons (lg_wsX0_dropTunnels_0 _ (List.mem_of_getElem? (i := 17) rfl)) (gi_cons (lg_wsX0_dropTunnels_0 _ (List.mem_of_getElem? (i := 18) rfl)) (gi_cons (lg_wsX0_dropTunnels_0 _ (List.mem_of_getElem? (i := 19) rfl)) (gi_cons (lg_wsX0_dropTunnels_0 _ (List.mem_of_getElem? (i := 8) rfl)) (gi_cons (lg_wsX0_dropTunnels_0 _ (List.mem_of_getElem? (i := 20) rfl)) (gi_cons (lg_wsX0_dropTunnels_0 _ (List.mem_of_getElem? (i := 11) rfl)) (gi_cons (lg_wsX0_dropTunnels_0 _ (List.mem_of_getElem? (i := 21) rfl)) (gi_cons (lg_wsX0_dropTunnels_0 _ (List.mem_of_getElem? (i := 22) rfl)) (gi_cons (lg_wsX0_dropTunnels_0 _ (List.mem_of_getElem? (i := 23) rfl)) (gi_cons (lg_wsX0_dropTunnels_1 _ (List.mem_of_getElem? (i := 0) rfl)) (gi_cons (lg_wsX0_dropTunnels_1 _ (List.mem_of_getElem? (i := 1) rfl)) gi_nil)))))))))))) ls_wsX0_dropTunnels_1))
set_option maxRecDepth 20000 in
theorem gX0_dropTunnels_X3_firstIndex : GoodIn wsX0_dropTunnels (wsV RX0 126 RX3 yX3_firstIndex wsX3_firstIndex) := goodIn_app (gi_cons (lg_wsX0_dropTunnels_0 _ (List.mem_of_getElem? (i := 12) rfl)) (gi_cons (lg_wsX0_dropTunnels_0 _ (List.mem_of_getElem? (i := 13) rfl)) (gi_cons (lg_wsX0_dropTunnels_0 _ (List.mem_of_getElem? (i := 14) rfl)) (gi_cons (lg_wsX0_dropTunnels_0 _ (List.mem_of_getElem? (i := 8) rfl)) gi_nil)))) ggX0_dropTunnels_X3_firstIndex
set_option maxRecDepth 20000 in
theorem ggX0_dropTunnels_X3_from : GoodIn wsX0_dropTunnels wsX3_from := (gi_cons (lg_wsX0_dropTunnels_1 _ (List.mem_of_getElem? (i := 1) rfl)) (goodIn_app (gi_cons (lg_wsX0_dropTunnels_0 _ (List.mem_of_getElem? (i := 11) rfl)) (gi_cons (lg_wsX0_dropTunnels_0 _ (List.mem_of_getElem? (i := 21) rfl)) gi_nil)) ls_wsX0_dropTunnels_1))
set_option maxRecDepth 20000 in
theorem gX0_dropTunnels_X3_from : GoodIn wsX0_dropTunnels (wsV RX0 131 RX3 yX3_from wsX3_from) := goodIn_app (gi_cons (lg_wsX0_dropTunnels_1 _ (List.mem_of_getElem? (i := 2) rfl)) (gi_cons (lg_wsX0_dropTunnels_0 _ (List.mem_of_getElem? (i := 23) rfl)) (gi_cons (lg_wsX0_dropTunnels_1 _ (List.mem_of_getElem? (i := 0) rfl)) (gi_cons (lg_wsX0_dropTunnels_0 _ (List.mem_of_getElem? (i := 8) rfl)) gi_nil)))) ggX0_dropTunnels_X3_from
set_option maxRecDepth 20000 in
theorem ggX0_dropTunnels_X3_to : GoodIn wsX0_dropTunnels wsX3_to := (gi_cons (lg_wsX0_dropTunnels_0 _ (List.mem_of_getElem? (i := 20) rfl)) (goodIn_app (gi_cons (lg_wsX0_dropTunnels_0 _ (List.mem_of_getElem? (i := 11) rfl)) (gi_cons (lg_wsX0_dropTunnels_0 _ (List.mem_of_getElem? (i := 21) rfl)) gi_nil)) ls_wsX0_dropTunnels_1))
set_option maxRecDepth 20000 in
theorem gX0_dropTunnels_X3_to : GoodIn wsX0_dropTunnels (wsV RX0 134 RX3 yX3_to wsX3_to) := goodIn_app (gi_cons (lg_wsX0_dropTunnels_1 _ (List.mem_of_getElem? (i := 3) rfl)) (gi_cons (lg_wsX0_dropTunnels_0 _ (List.mem_of_getElem? (i := 18) rfl)) (gi_cons (lg_wsX0_dropTunnels_0 _ (List.mem_of_getElem? (i := 19) rfl)) (gi_cons (lg_wsX0_dropTunnels_0 _ (List.mem_of_getElem? (i := 8) rfl)) gi_nil)))) ggX0_dropTunnels_X3_to
set_option maxRecDepth 20000 in
theorem ggX0_dropTunnels_X3_addRow : GoodIn wsX0_dropTunnels wsX3_addRow := (gi_cons (lg_wsX0_dropTunnels_1 _ (List.mem_of_getElem? (i := 7) rfl)) (goodIn_app (gi_cons (lg_wsX0_dropTunnels_0 _ (List.mem_of_getElem? (i := 11) rfl)) (gi_cons (lg_wsX0_dropTunnels_0 _ (List.mem_of_getElem? (i := 21) rfl)) (gi_cons (lg_wsX0_dropTunnels_0 _ (List.mem_of_getElem? (i := 16) rfl)) (gi_cons (lg_wsX0_dropTunnels_0 _ (List.mem_of_getElem? (i := 10) rfl)) (gi_cons (lg_wsX0_dropTunnels_1 _ (List.mem_of_getElem? (i := 8) rfl)) (gi_cons (lg_wsX0_dropTunnels_1 _ (List.mem_of_getElem? (i := 9) rfl)) (gi_cons (lg_wsX0_dropTunnels_1 _ (List.mem_of_getElem? (i := 10) rfl)) (gi_cons (lg_wsX0_dropTunnels_1 _ (List.mem_of_getElem? (i := 11) rfl)) gi_nil)))))))) ls_wsX0_dropTunnels_1))
set_option maxRecDepth 20000 in
theorem gX0_dropTunnels_X3_addRow : GoodIn wsX0_dropTunnels (wsV RX0 113 RX3 yX3_addRow wsX3_addRow) := goodIn_app (gi_cons (lg_wsX0_dropTunnels_1 _ (List.mem_of_getElem? (i := 4) rfl)) (gi_cons (lg_wsX0_dropTunnels_1 _ (List.mem_of_getElem? (i := 5) rfl)) (gi_cons (lg_wsX0_dropTunnels_1 _ (List.mem_of_getElem? (i := 6) rfl)) (gi_cons (lg_wsX0_dropTunnels_0 _ (List.mem_of_getElem? (i := 8) rfl)) gi_nil)))) ggX0_dropTunnels_X3_addRow
set_option maxRecDepth 20000 in
theorem ggX0_dropTunnels_X3_copyFrom : GoodIn wsX0_dropTunnels wsX3_copyFrom := (gi_cons (lg_wsX0_dropTunnels_1 _ (List.mem_of_getElem? (i := 15) rfl)) (goodIn_app (gi_cons (lg_wsX0_dropTunnels_0 _ (List.mem_of_getElem? (i := 10) rfl)) (gi_cons (lg_wsX0_dropTunnels_0 _ (List.mem_of_getElem? (i := 11) rfl)) (gi_cons (lg_wsX0_dropTunnels_0 _ (List.mem_of_getElem? (i := 16) rfl)) (gi_cons (lg_wsX0_dropTunnels_1 _ (List.mem_of_getElem? (i := 8) rfl)) (gi_cons (lg_wsX0_dropTunnels_1 _ (List.mem_of_getElem? (i := 9) rfl)) (gi_cons (lg_wsX0_dropTunnels_1 _ (List.mem_of_getElem? (i := 10) rfl)) (gi_cons (lg_wsX0_dropTunnels_1 _ (List.mem_of_getElem? (i := 11) rfl)) (gi_cons (lg_wsX0_dropTunnels_0 _ (List.mem_of_getElem? (i := 21) rfl)) gi_nil)))))))) ls_wsX0_dropTunnels_1))
set_option maxRecDepth 20000 in
theorem gX0_dropTunnels_X3_copyFrom : GoodIn wsX0_dropTunnels (wsV RX0 52 RX3 yX3_copyFrom wsX3_copyFrom) := goodIn_app (gi_cons (lg_wsX0_dropTunnels_1 _ (List.mem_of_getElem? (i := 12) rfl)) (gi_cons (lg_wsX0_dropTunnels_1 _ (List.mem_of_getElem? (i := 13) rfl)) (gi_cons (lg_wsX0_dropTunnels_1 _ (List.mem_of_getElem? (i := 14) rfl)) (gi_cons (lg_wsX0_dropTunnels_0 _ (List.mem_of_getElem? (i := 8) rfl)) gi_nil)))) ggX0_dropTunnels_X3_copyFrom
theorem dX0_dropTunnels_0 : decode cX0_dropTunnels 0 = .ok (.aload_n 0, 1) := by decide +kernel
theorem dX0_dropTunnels_1 : decode cX0_dropTunnels 1 = .ok (.getfield 28, 3) := by decide +kernel
theorem dX0_dropTunnels_4 : decode cX0_dropTunnels 4 = .ok (.getfield 123, 3) := by decide +kernel
theorem dX0_dropTunnels_7 : decode cX0_dropTunnels 7 = .ok (.istore_n 2, 1) := by decide +kernel
theorem dX0_dropTunnels_8 : decode cX0_dropTunnels 8 = .ok (.aload_n 0, 1) := by decide +kernel
theorem dX0_dropTunnels_9 : decode cX0_dropTunnels 9 = .ok (.getfield 42, 3) := by decide +kernel
theorem dX0_dropTunnels_12 : decode cX0_dropTunnels 12 = .ok (.invokevirtual 120, 3) := by decide +kernel
theorem dX0_dropTunnels_15 : decode cX0_dropTunnels 15 = .ok (.iconst 0, 1) := by decide +kernel
theorem dX0_dropTunnels_16 : decode cX0_dropTunnels 16 = .ok (.istore_n 3, 1) := by decide +kernel
theorem dX0_dropTunnels_17 : decode cX0_dropTunnels 17 = .ok (.iload_n 3, 1) := by decide +kernel
theorem dX0_dropTunnels_18 : decode cX0_dropTunnels 18 = .ok (.aload_n 0, 1) := by decide +kernel
theorem dX0_dropTunnels_19 : decode cX0_dropTunnels 19 = .ok (.getfield 28, 3) := by decide +kernel
theorem dX0_dropTunnels_22 : decode cX0_dropTunnels 22 = .ok (.getfield 123, 3) := by decide +kernel
theorem dX0_dropTunnels_25 : decode cX0_dropTunnels 25 = .ok (.if_icmp .ge 52, 3) := by decide +kernel
theorem dX0_dropTunnels_28 : decode cX0_dropTunnels 28 = .ok (.aload_n 0, 1) := by decide +kernel
theorem dX0_dropTunnels_29 : decode cX0_dropTunnels 29 = .ok (.getfield 28, 3) := by decide +kernel
theorem dX0_dropTunnels_32 : decode cX0_dropTunnels 32 = .ok (.iload_n 3, 1) := by decide +kernel
theorem dX0_dropTunnels_33 : decode cX0_dropTunnels 33 = .ok (.iload_n 1, 1) := by decide +kernel
theorem dX0_dropTunnels_34 : decode cX0_dropTunnels 34 = .ok (.invokevirtual 126, 3) := by decide +kernel
theorem dX0_dropTunnels_37 : decode cX0_dropTunnels 37 = .ok (.iconst (-1), 1) := by decide +kernel
theorem dX0_dropTunnels_38 : decode cX0_dropTunnels 38 = .ok (.if_icmp .ne 33, 3) := by decide +kernel
theorem dX0_dropTunnels_41 : decode cX0_dropTunnels 41 = .ok (.aload_n 0, 1) := by decide +kernel
theorem dX0_dropTunnels_42 : decode cX0_dropTunnels 42 = .ok (.getfield 42, 3) := by decide +kernel
theorem dX0_dropTunnels_45 : decode cX0_dropTunnels 45 = .ok (.aload_n 0, 1) := by decide +kernel
theorem dX0_dropTunnels_46 : decode cX0_dropTunnels 46 = .ok (.getfield 28, 3) := by decide +kernel
theorem dX0_dropTunnels_49 : decode cX0_dropTunnels 49 = .ok (.getfield 128, 3) := by decide +kernel
theorem dX0_dropTunnels_52 : decode cX0_dropTunnels 52 = .ok (.aload_n 0, 1) := by decide +kernel
theorem dX0_dropTunnels_53 : decode cX0_dropTunnels 53 = .ok (.getfield 28, 3) := by decide +kernel
theorem dX0_dropTunnels_56 : decode cX0_dropTunnels 56 = .ok (.iload_n 3, 1) := by decide +kernel
theorem dX0_dropTunnels_57 : decode cX0_dropTunnels 57 = .ok (.invokevirtual 131, 3) := by decide +kernel
theorem dX0_dropTunnels_60 : decode cX0_dropTunnels 60 = .ok (.aload_n 0, 1) := by decide +kernel
theorem dX0_dropTunnels_61 : decode cX0_dropTunnels 61 = .ok (.getfield 28, 3) := by decide +kernel
theorem dX0_dropTunnels_64 : decode cX0_dropTunnels 64 = .ok (.iload_n 3, 1) := by decide +kernel
theorem dX0_dropTunnels_65 : decode cX0_dropTunnels 65 = .ok (.invokevirtual 134, 3) := by decide +kernel
theorem dX0_dropTunnels_68 : decode cX0_dropTunnels 68 = .ok (.invokevirtual 113, 3) := by decide +kernel
theorem dX0_dropTunnels_71 : decode cX0_dropTunnels 71 = .ok (.iinc 3 1, 3) := by decide +kernel
theorem dX0_dropTunnels_74 : decode cX0_dropTunnels 74 = .ok (.goto (-57), 3) := by decide +kernel
theorem dX0_dropTunnels_77 : decode cX0_dropTunnels 77 = .ok (.aload_n 0, 1) := by decide +kernel
theorem dX0_dropTunnels_78 : decode cX0_dropTunnels 78 = .ok (.getfield 28, 3) := by decide +kernel
theorem dX0_dropTunnels_81 : decode cX0_dropTunnels 81 = .ok (.aload_n 0, 1) := by decide +kernel
theorem dX0_dropTunnels_82 : decode cX0_dropTunnels 82 = .ok (.getfield 42, 3) := by decide +kernel
theorem dX0_dropTunnels_85 : decode cX0_dropTunnels 85 = .ok (.invokevirtual 52, 3) := by decide +kernel
theorem dX0_dropTunnels_88 : decode cX0_dropTunnels 88 = .ok (.aload_n 0, 1) := by decide +kernel
theorem dX0_dropTunnels_89 : decode cX0_dropTunnels 89 = .ok (.dup, 1) := by decide +kernel
theorem dX0_dropTunnels_90 : decode cX0_dropTunnels 90 = .ok (.getfield 74, 3) := by decide +kernel
theorem dX0_dropTunnels_93 : decode cX0_dropTunnels 93 = .ok (.iload_n 2, 1) := by decide +kernel
theorem dX0_dropTunnels_94 : decode cX0_dropTunnels 94 = .ok (.aload_n 0, 1) := by decide +kernel
theorem dX0_dropTunnels_95 : decode cX0_dropTunnels 95 = .ok (.getfield 28, 3) := by decide +kernel
theorem dX0_dropTunnels_98 : decode cX0_dropTunnels 98 = .ok (.getfield 123, 3) := by decide +kernel
theorem dX0_dropTunnels_101 : decode cX0_dropTunnels 101 = .ok (.isub, 1) := by decide +kernel
theorem dX0_dropTunnels_102 : decode cX0_dropTunnels 102 = .ok (.iadd, 1) := by decide +kernel
theorem dX0_dropTunnels_103 : decode cX0_dropTunnels 103 = .ok (.putfield 74, 3) := by decide +kernel
theorem dX0_dropTunnels_106 : decode cX0_dropTunnels 106 = .ok (.return_, 1) := by decide +kernel
theorem lg_wsX0_dropTrails_0 : GoodIn wsX0_dropTrails wsX0_dropTrails_r1 := goodIn_sub (fun _ h => (List.mem_cons_of_mem _ (List.mem_append_left _ (List.mem_append_left _ (List.mem_append_left _ (List.mem_append_left _ h)))))) (by decide +kernel)
theorem lg_wsX0_dropTrails_1 : GoodIn wsX0_dropTrails wsX0_dropTrails_r2 := goodIn_sub (fun _ h => (List.mem_cons_of_mem _ (List.mem_append_left _ (List.mem_append_left _ (List.mem_append_left _ (List.mem_append_right _ (List.mem_append_left _ h))))))) (by decide +kernel)
theorem lg_wsX0_dropTrails_2 : GoodIn wsX0_dropTrails wsX0_dropTrails_r3 := goodIn_sub (fun _ h => (List.mem_cons_of_mem _ (List.mem_append_left _ (List.mem_append_left _ (List.mem_append_left _ (List.mem_append_right _ (List.mem_append_right _ (List.mem_append_left _ h)))))))) (by decide +kernel)
theorem lg_wsX0_dropTrails_3 : GoodIn wsX0_dropTrails wsX0_dropTrails_r4 := goodIn_sub (fun _ h => (List.mem_cons_of_mem _ (List.mem_append_left _ (List.mem_append_left _ (List.mem_append_left _ (List.mem_append_right _ (List.mem_append_right _ (List.mem_append_right _ h)))))))) (by decide +kernel)
theorem ls_wsX0_dropTrails_0 : GoodIn wsX0_dropTrails wsX00 := goodIn_sub (fun _ h => (List.mem_cons_of_mem _ (List.mem_append_left _ (List.mem_append_left _ (List.mem_append_right _ h))))) (by decide +kernel)
theorem ls_wsX0_dropTrails_1 : GoodIn wsX0_dropTrails wsX10 := goodIn_sub (fun _ h => (List.mem_cons_of_mem _ (List.mem_append_left _ (List.mem_append_right _ h)))) (by decide +kernel)
theorem ls_wsX0_dropTrails_2 : GoodIn wsX0_dropTrails wsX30 := goodIn_sub (fun _ h => (List.mem_cons_of_mem _ (List.mem_append_right _ h))) (by decide +kernel)
set_option maxRecDepth 20000 in
theorem ggX0_dropTrails_X1_firstIndex : GoodIn wsX0_dropTrails wsX1_firstIndex := (gi_cons (lg_wsX0_dropTrails_0 _ (List.mem_of_getElem? (i := 9) rfl)) (goodIn_app (gi_cons (lg_wsX0_dropTrails_0 _ (List.mem_of_getElem? (i := 10) rfl)) (gi_cons (lg_wsX0_dropTrails_0 _ (List.mem_of_getElem? (i := 11) rfl)) gi_nil)) ls_wsX0_dropTrails_1))
set_option maxRecDepth 20000 in
theorem gX0_dropTrails_X1_firstIndex : GoodIn wsX0_dropTrails (wsV RX0 109 RX1 yX1_firstIndex wsX1_firstIndex) := goodIn_app (gi_cons (lg_wsX0_dropTrails_0 _ (List.mem_of_getElem? (i := 5) rfl)) (gi_cons (lg_wsX0_dropTrails_0 _ (List.mem_of_getElem? (i := 6) rfl)) (gi_cons (lg_wsX0_dropTrails_0 _ (List.mem_of_getElem? (i := 7) rfl)) (gi_cons (lg_wsX0_dropTrails_0 _ (List.mem_of_getElem? (i := 8) rfl)) gi_nil)))) ggX0_dropTrails_X1_firstIndex
set_option maxRecDepth 20000 in
theorem ggX0_dropTrails_X1_place : GoodIn wsX0_dropTrails wsX1_place := (gi_cons (lg_wsX0_dropTrails_0 _ (List.mem_of_getElem? (i := 15) rfl)) (goodIn_app (gi_cons (lg_wsX0_dropTrails_0 _ (List.mem_of_getElem? (i := 11) rfl)) (gi_cons (lg_wsX0_dropTrails_0 _ (List.mem_of_getElem? (i := 10) rfl)) gi_nil)) ls_wsX0_dropTrails_1))
set_option maxRecDepth 20000 in
theorem gX0_dropTrails_X1_place : GoodIn wsX0_dropTrails (wsV RX0 77 RX1 yX1_place wsX1_place) := goodIn_app (gi_cons (lg_wsX0_dropTrails_0 _ (List.mem_of_getElem? (i := 12) rfl)) (gi_cons (lg_wsX0_dropTrails_0 _ (List.mem_of_getElem? (i := 13) rfl)) (gi_cons (lg_wsX0_dropTrails_0 _ (List.mem_of_getElem? (i := 14) rfl)) (gi_cons (lg_wsX0_dropTrails_0 _ (List.mem_of_getElem? (i := 8) rfl)) gi_nil)))) ggX0_dropTrails_X1_place
set_option maxRecDepth 20000 in
theorem ggX0_dropTrails_X1_beginTrail : GoodIn wsX0_dropTrails wsX1_beginTrail := (gi_cons (lg_wsX0_dropTrails_0 _ (List.mem_of_getElem? (i := 19) rfl)) (goodIn_app (gi_cons (lg_wsX0_dropTrails_0 _ (List.mem_of_getElem? (i := 11) rfl)) (gi_cons (lg_wsX0_dropTrails_0 _ (List.mem_of_getElem? (i := 10) rfl)) gi_nil)) ls_wsX0_dropTrails_1))
set_option maxRecDepth 20000 in
theorem gX0_dropTrails_X1_beginTrail : GoodIn wsX0_dropTrails (wsV RX0 100 RX1 yX1_beginTrail wsX1_beginTrail) := goodIn_app (gi_cons (lg_wsX0_dropTrails_0 _ (List.mem_of_getElem? (i := 16) rfl)) (gi_cons (lg_wsX0_dropTrails_0 _ (List.mem_of_getElem? (i := 17) rfl)) (gi_cons (lg_wsX0_dropTrails_0 _ (List.mem_of_getElem? (i := 18) rfl)) (gi_cons (lg_wsX0_dropTrails_0 _ (List.mem_of_getElem? (i := 8) rfl)) gi_nil)))) ggX0_dropTrails_X1_beginTrail
set_option maxRecDepth 20000 in
theorem ggX0_dropTrails_X0_ensureMound : GoodIn wsX0_dropTrails wsX0_ensureMound := (gi_cons (lg_wsX0_dropTrails_1 _ (List.mem_of_getElem? (i := 0) rfl)) (goodIn_app (goodIn_app (goodIn_app (goodIn_app (gi_cons (lg_wsX0_dropTrails_1 _ (List.mem_of_getElem? (i := 1) rfl)) (gi_cons (lg_wsX0_dropTrails_1 _ (List.mem_of_getElem? (i := 2) rfl)) (gi_cons (lg_wsX0_dropTrails_0 _ (List.mem_of_getElem? (i := 0) rfl)) (gi_cons (lg_wsX0_dropTrails_0 _ (List.mem_of_getElem? (i := 1) rfl)) (gi_cons (lg_wsX0_dropTrails_1 _ (List.mem_of_getElem? (i := 3) rfl)) (gi_cons (lg_wsX0_dropTrails_1 _ (List.mem_of_getElem? (i := 4) rfl)) (gi_cons (lg_wsX0_dropTrails_1 _ (List.mem_of_getElem? (i := 5) rfl)) (gi_cons (lg_wsX0_dropTrails_1 _ (List.mem_of_getElem? (i := 6) rfl)) (gi_cons (lg_wsX0_dropTrails_1 _ (List.mem_of_getElem? (i := 7) rfl)) (gi_cons (lg_wsX0_dropTrails_0 _ (List.mem_of_getElem? (i := 23) rfl)) (gi_cons (lg_wsX0_dropTrails_1 _ (List.mem_of_getElem? (i := 8) rfl)) (gi_cons (lg_wsX0_dropTrails_1 _ (List.mem_of_getElem? (i := 9) rfl)) (gi_cons (lg_wsX0_dropTrails_1 _ (List.mem_of_getElem? (i := 10) rfl)) (gi_cons (lg_wsX0_dropTrails_1 _ (List.mem_of_getElem? (i := 11) rfl)) (gi_cons (lg_wsX0_dropTrails_1 _ (List.mem_of_getElem? (i := 12) rfl)) (gi_cons (lg_wsX0_dropTrails_1 _ (List.mem_of_getElem? (i := 13) rfl)) (gi_cons (lg_wsX0_dropTrails_1 _ (List.mem_of_getElem? (i := 14) rfl)) (gi_cons (lg_wsX0_dropTrails_1 _ (List.mem_of_getElem? (i := 15) rfl)) (gi_cons (lg_wsX0_dropTrails_1 _ (List.mem_of_getElem? (i := 16) rfl)) (gi_cons (lg_wsX0_dropTrails_1 _ (List.mem_of_getElem? (i := 17) rfl)) (gi_cons (lg_wsX0_dropTrails_1 _ (List.mem_of_getElem? (i := 18) rfl)) (gi_cons (lg_wsX0_dropTrails_1 _ (List.mem_of_getElem? (i := 19) rfl)) (gi_cons (lg_wsX0_dropTrails_1 _ (List.mem_of_getElem? (i := 20) rfl)) (gi_cons (lg_wsX0_dropTrails_1 _ (List.mem_of_getElem? (i := 21) rfl)) gi_nil)))))))))))))))))))))))) (goodIn_app (gi_cons (lg_wsX0_dropTrails_1 _ (List.mem_of_getElem? (i := 22) rfl)) (gi_cons (lg_wsX0_dropTrails_1 _ (List.mem_of_getElem? (i := 23) rfl)) (gi_cons (lg_wsX0_dropTrails_2 _ (List.mem_of_getElem? (i := 0) rfl)) (gi_cons (lg_wsX0_dropTrails_2 _ (List.mem_of_getElem? (i := 1) rfl)) (gi_cons (lg_wsX0_dropTrails_2 _ (List.mem_of_getElem? (i := 2) rfl)) (gi_cons (lg_wsX0_dropTrails_2 _ (List.mem_of_getElem? (i := 3) rfl)) (gi_cons (lg_wsX0_dropTrails_2 _ (List.mem_of_getElem? (i := 4) rfl)) (gi_cons (lg_wsX0_dropTrails_2 _ (List.mem_of_getElem? (i := 5) rfl)) (gi_cons (lg_wsX0_dropTrails_2 _ (List.mem_of_getElem? (i := 6) rfl)) (gi_cons (lg_wsX0_dropTrails_2 _ (List.mem_of_getElem? (i := 7) rfl)) (gi_cons (lg_wsX0_dropTrails_2 _ (List.mem_of_getElem? (i := 8) rfl)) (gi_cons (lg_wsX0_dropTrails_2 _ (List.mem_of_getElem? (i := 9) rfl)) (gi_cons (lg_wsX0_dropTrails_2 _ (List.mem_of_getElem? (i := 10) rfl)) (gi_cons (lg_wsX0_dropTrails_2 _ (List.mem_of_getElem? (i := 11) rfl)) (gi_cons (lg_wsX0_dropTrails_2 _ (List.mem_of_getElem? (i := 12) rfl)) (gi_cons (lg_wsX0_dropTrails_2 _ (List.mem_of_getElem? (i := 13) rfl)) (gi_cons (lg_wsX0_dropTrails_2 _ (List.mem_of_getElem? (i := 14) rfl)) (gi_cons (lg_wsX0_dropTrails_2 _ (List.mem_of_getElem? (i := 15) rfl)) (gi_cons (lg_wsX0_dropTrails_2 _ (List.mem_of_getElem? (i := 16) rfl)) (gi_cons (lg_wsX0_dropTrails_2 _ (List.mem_of_getElem? (i := 17) rfl)) (gi_cons (lg_wsX0_dropTrails_2 _ (List.mem_of_getElem? (i := 18) rfl)) (gi_cons (lg_wsX0_dropTrails_2 _ (List.mem_of_getElem? (i := 19) rfl)) (gi_cons (lg_wsX0_dropTrails_2 _ (List.mem_of_getElem? (i := 20) rfl)) (gi_cons (lg_wsX0_dropTrails_2 _ (List.mem_of_getElem? (i := 21) rfl)) gi_nil)))))))))))))))))))))))) (gi_cons (lg_wsX0_dropTrails_2 _ (List.mem_of_getElem? (i := 22) rfl)) (gi_cons (lg_wsX0_dropTrails_2 _ (List.mem_of_getElem? (i := 23) rfl)) (gi_cons (lg_wsX0_dropTrails_3 _ (List.mem_of_getElem? (i := 0) rfl)) (gi_cons (lg_wsX0_dropTrails_3 _ (List.mem_of_getElem? (i := 1) rfl)) (gi_cons (lg_wsX0_dropTrails_3 _ (List.mem_of_getElem? (i := 2) rfl)) (gi_cons (lg_wsX0_dropTrails_0 _ (List.mem_of_getElem? (i := 5) rfl)) (gi_cons (lg_wsX0_dropTrails_0 _ (List.mem_of_getElem? (i := 6) rfl)) (gi_cons (lg_wsX0_dropTrails_0 _ (List.mem_of_getElem? (i := 7) rfl)) (gi_cons (lg_wsX0_dropTrails_0 _ (List.mem_of_getElem? (i := 8) rfl)) (gi_cons (lg_wsX0_dropTrails_0 _ (List.mem_of_getElem? (i := 9) rfl)) (gi_cons (lg_wsX0_dropTrails_0 _ (List.mem_of_getElem? (i := 10) rfl)) (gi_cons (lg_wsX0_dropTrails_0 _ (List.mem_of_getElem? (i := 11) rfl)) (gi_cons (lg_wsX0_dropTrails_3 _ (List.mem_of_getElem? (i := 3) rfl)) (gi_cons (lg_wsX0_dropTrails_3 _ (List.mem_of_getElem? (i := 4) rfl)) (gi_cons (lg_wsX0_dropTrails_3 _ (List.mem_of_getElem? (i := 5) rfl)) (gi_cons (lg_wsX0_dropTrails_3 _ (List.mem_of_getElem? (i := 6) rfl)) gi_nil)))))))))))))))))) ls_wsX0_dropTrails_0) ls_wsX0_dropTrails_1) ls_wsX0_dropTrails_2))
set_option maxRecDepth 20000 in
theorem gX0_dropTrails_X0_ensureMound : GoodIn wsX0_dropTrails (wsV RX0 96 RX0 yX0_ensureMound wsX0_ensureMound) := goodIn_app (gi_cons (lg_wsX0_dropTrails_0 _ (List.mem_of_getElem? (i := 20) rfl)) (gi_cons (lg_wsX0_dropTrails_0 _ (List.mem_of_getElem? (i := 21) rfl)) (gi_cons (lg_wsX0_dropTrails_0 _ (List.mem_of_getElem? (i := 22) rfl)) (gi_cons (lg_wsX0_dropTrails_0 _ (List.mem_of_getElem? (i := 23) rfl)) gi_nil)))) ggX0_dropTrails_X0_ensureMound
theorem dX0_dropTrails_0 : decode cX0_dropTrails 0 = .ok (.iconst 0, 1) := by decide +kernel
theorem dX0_dropTrails_1 : decode cX0_dropTrails 1 = .ok (.istore_n 2, 1) := by decide +kernel
theorem dX0_dropTrails_2 : decode cX0_dropTrails 2 = .ok (.iload_n 2, 1) := by decide +kernel
theorem dX0_dropTrails_3 : decode cX0_dropTrails 3 = .ok (.aload_n 0, 1) := by decide +kernel
theorem dX0_dropTrails_4 : decode cX0_dropTrails 4 = .ok (.getfield 56, 3) := by decide +kernel
theorem dX0_dropTrails_7 : decode cX0_dropTrails 7 = .ok (.if_icmp .ge 49, 3) := by decide +kernel
theorem dX0_dropTrails_10 : decode cX0_dropTrails 10 = .ok (.aload_n 0, 1) := by decide +kernel
theorem dX0_dropTrails_11 : decode cX0_dropTrails 11 = .ok (.getfield 34, 3) := by decide +kernel
theorem dX0_dropTrails_14 : decode cX0_dropTrails 14 = .ok (.iload_n 2, 1) := by decide +kernel
theorem dX0_dropTrails_15 : decode cX0_dropTrails 15 = .ok (.aaload, 1) := by decide +kernel
theorem dX0_dropTrails_16 : decode cX0_dropTrails 16 = .ok (.astore_n 3, 1) := by decide +kernel
theorem dX0_dropTrails_17 : decode cX0_dropTrails 17 = .ok (.aload_n 3, 1) := by decide +kernel
theorem dX0_dropTrails_18 : decode cX0_dropTrails 18 = .ok (.aload_n 3, 1) := by decide +kernel
theorem dX0_dropTrails_19 : decode cX0_dropTrails 19 = .ok (.iload_n 1, 1) := by decide +kernel
theorem dX0_dropTrails_20 : decode cX0_dropTrails 20 = .ok (.invokevirtual 109, 3) := by decide +kernel
theorem dX0_dropTrails_23 : decode cX0_dropTrails 23 = .ok (.iconst (-1), 1) := by decide +kernel
theorem dX0_dropTrails_24 : decode cX0_dropTrails 24 = .ok (.if_icmp .eq 7, 3) := by decide +kernel
theorem dX0_dropTrails_27 : decode cX0_dropTrails 27 = .ok (.iconst 1, 1) := by decide +kernel
theorem dX0_dropTrails_28 : decode cX0_dropTrails 28 = .ok (.goto 4, 3) := by decide +kernel
theorem dX0_dropTrails_31 : decode cX0_dropTrails 31 = .ok (.iconst 0, 1) := by decide +kernel
theorem dX0_dropTrails_32 : decode cX0_dropTrails 32 = .ok (.putfield 168, 3) := by decide +kernel
theorem dX0_dropTrails_35 : decode cX0_dropTrails 35 = .ok (.aload_n 3, 1) := by decide +kernel
theorem dX0_dropTrails_36 : decode cX0_dropTrails 36 = .ok (.getfield 168, 3) := by decide +kernel
theorem dX0_dropTrails_39 : decode cX0_dropTrails 39 = .ok (.ifCond .eq 11, 3) := by decide +kernel
theorem dX0_dropTrails_42 : decode cX0_dropTrails 42 = .ok (.aload_n 3, 1) := by decide +kernel
theorem dX0_dropTrails_43 : decode cX0_dropTrails 43 = .ok (.aload_n 3, 1) := by decide +kernel
theorem dX0_dropTrails_44 : decode cX0_dropTrails 44 = .ok (.invokevirtual 77, 3) := by decide +kernel
theorem dX0_dropTrails_47 : decode cX0_dropTrails 47 = .ok (.invokevirtual 100, 3) := by decide +kernel
theorem dX0_dropTrails_50 : decode cX0_dropTrails 50 = .ok (.iinc 2 1, 3) := by decide +kernel
theorem dX0_dropTrails_53 : decode cX0_dropTrails 53 = .ok (.goto (-51), 3) := by decide +kernel
theorem dX0_dropTrails_56 : decode cX0_dropTrails 56 = .ok (.iconst 0, 1) := by decide +kernel
theorem dX0_dropTrails_57 : decode cX0_dropTrails 57 = .ok (.istore_n 2, 1) := by decide +kernel
theorem dX0_dropTrails_58 : decode cX0_dropTrails 58 = .ok (.iload_n 2, 1) := by decide +kernel
theorem dX0_dropTrails_59 : decode cX0_dropTrails 59 = .ok (.aload_n 0, 1) := by decide +kernel
theorem dX0_dropTrails_60 : decode cX0_dropTrails 60 = .ok (.getfield 56, 3) := by decide +kernel
theorem dX0_dropTrails_63 : decode cX0_dropTrails 63 = .ok (.if_icmp .ge 44, 3) := by decide +kernel
theorem dX0_dropTrails_66 : decode cX0_dropTrails 66 = .ok (.aload_n 0, 1) := by decide +kernel
theorem dX0_dropTrails_67 : decode cX0_dropTrails 67 = .ok (.getfield 34, 3) := by decide +kernel
theorem dX0_dropTrails_70 : decode cX0_dropTrails 70 = .ok (.iload_n 2, 1) := by decide +kernel
theorem dX0_dropTrails_71 : decode cX0_dropTrails 71 = .ok (.aaload, 1) := by decide +kernel
theorem dX0_dropTrails_72 : decode cX0_dropTrails 72 = .ok (.astore_n 3, 1) := by decide +kernel
theorem dX0_dropTrails_73 : decode cX0_dropTrails 73 = .ok (.aload_n 3, 1) := by decide +kernel
theorem dX0_dropTrails_74 : decode cX0_dropTrails 74 = .ok (.getfield 168, 3) := by decide +kernel
theorem dX0_dropTrails_77 : decode cX0_dropTrails 77 = .ok (.ifCond .eq 24, 3) := by decide +kernel
theorem dX0_dropTrails_80 : decode cX0_dropTrails 80 = .ok (.aload_n 3, 1) := by decide +kernel
theorem dX0_dropTrails_81 : decode cX0_dropTrails 81 = .ok (.iconst 0, 1) := by decide +kernel
theorem dX0_dropTrails_82 : decode cX0_dropTrails 82 = .ok (.putfield 168, 3) := by decide +kernel
theorem dX0_dropTrails_85 : decode cX0_dropTrails 85 = .ok (.aload_n 0, 1) := by decide +kernel
theorem dX0_dropTrails_86 : decode cX0_dropTrails 86 = .ok (.aload_n 3, 1) := by decide +kernel
theorem dX0_dropTrails_87 : decode cX0_dropTrails 87 = .ok (.invokevirtual 77, 3) := by decide +kernel
theorem dX0_dropTrails_90 : decode cX0_dropTrails 90 = .ok (.invokevirtual 96, 3) := by decide +kernel
theorem dX0_dropTrails_93 : decode cX0_dropTrails 93 = .ok (.aload_n 3, 1) := by decide +kernel
theorem dX0_dropTrails_94 : decode cX0_dropTrails 94 = .ok (.aload_n 0, 1) := by decide +kernel
theorem dX0_dropTrails_95 : decode cX0_dropTrails 95 = .ok (.getfield 38, 3) := by decide +kernel
theorem dX0_dropTrails_98 : decode cX0_dropTrails 98 = .ok (.putfield 87, 3) := by decide +kernel
theorem dX0_dropTrails_101 : decode cX0_dropTrails 101 = .ok (.iinc 2 1, 3) := by decide +kernel
theorem dX0_dropTrails_104 : decode cX0_dropTrails 104 = .ok (.goto (-46), 3) := by decide +kernel
theorem dX0_dropTrails_107 : decode cX0_dropTrails 107 = .ok (.return_, 1) := by decide +kernel
theorem lg_wsX0_rakeOff_0 : GoodIn wsX0_rakeOff wsX0_rakeOff_r1 := goodIn_sub (fun _ h => (List.mem_cons_of_mem _ (List.mem_append_left _ (List.mem_append_left _ (List.mem_append_left _ h))))) (by decide +kernel)
theorem lg_wsX0_rakeOff_1 : GoodIn wsX0_rakeOff wsX0_rakeOff_r2 := goodIn_sub (fun _ h => (List.mem_cons_of_mem _ (List.mem_append_left _ (List.mem_append_left _ (List.mem_append_right _ (List.mem_append_left _ h)))))) (by decide +kernel)
theorem lg_wsX0_rakeOff_2 : GoodIn wsX0_rakeOff wsX0_rakeOff_r3 := goodIn_sub (fun _ h => (List.mem_cons_of_mem _ (List.mem_append_left _ (List.mem_append_left _ (List.mem_append_right _ (List.mem_append_right _ (List.mem_append_left _ h))))))) (by decide +kernel)
theorem lg_wsX0_rakeOff_3 : GoodIn wsX0_rakeOff wsX0_rakeOff_r4 := goodIn_sub (fun _ h => (List.mem_cons_of_mem _ (List.mem_append_left _ (List.mem_append_left _ (List.mem_append_right _ (List.mem_append_right _ (List.mem_append_right _ h))))))) (by decide +kernel)
theorem ls_wsX0_rakeOff_0 : GoodIn wsX0_rakeOff wsX00 := goodIn_sub (fun _ h => (List.mem_cons_of_mem _ (List.mem_append_left _ (List.mem_append_right _ h)))) (by decide +kernel)
theorem ls_wsX0_rakeOff_1 : GoodIn wsX0_rakeOff wsX30 := goodIn_sub (fun _ h => (List.mem_cons_of_mem _ (List.mem_append_right _ h))) (by decide +kernel)
set_option maxRecDepth 20000 in
theorem ggX0_rakeOff_X3_endingAt : GoodIn wsX0_rakeOff wsX3_endingAt := (gi_cons (lg_wsX0_rakeOff_0 _ (List.mem_of_getElem? (i := 7) rfl)) (goodIn_app (goodIn_app (gi_cons (lg_wsX0_rakeOff_0 _ (List.mem_of_getElem? (i := 8) rfl)) (gi_cons (lg_wsX0_rakeOff_0 _ (List.mem_of_getElem? (i := 9) rfl)) (gi_cons (lg_wsX0_rakeOff_0 _ (List.mem_of_getElem? (i := 10) rfl)) (gi_cons (lg_wsX0_rakeOff_0 _ (List.mem_of_getElem? (i := 11) rfl)) (gi_cons (lg_wsX0_rakeOff_0 _ (List.mem_of_getElem? (i := 6) rfl)) (gi_cons (lg_wsX0_rakeOff_0 _ (List.mem_of_getElem? (i := 12) rfl)) (gi_cons (lg_wsX0_rakeOff_0 _ (List.mem_of_getElem? (i := 13) rfl)) (gi_cons (lg_wsX0_rakeOff_0 _ (List.mem_of_getElem? (i := 14) rfl)) (gi_cons (lg_wsX0_rakeOff_0 _ (List.mem_of_getElem? (i := 15) rfl)) (gi_cons (lg_wsX0_rakeOff_0 _ (List.mem_of_getElem? (i := 16) rfl)) (gi_cons (lg_wsX0_rakeOff_0 _ (List.mem_of_getElem? (i := 17) rfl)) (gi_cons (lg_wsX0_rakeOff_0 _ (List.mem_of_getElem? (i := 18) rfl)) (gi_cons (lg_wsX0_rakeOff_0 _ (List.mem_of_getElem? (i := 19) rfl)) (gi_cons (lg_wsX0_rakeOff_0 _ (List.mem_of_getElem? (i := 20) rfl)) (gi_cons (lg_wsX0_rakeOff_0 _ (List.mem_of_getElem? (i := 21) rfl)) (gi_cons (lg_wsX0_rakeOff_0 _ (List.mem_of_getElem? (i := 22) rfl)) (gi_cons (lg_wsX0_rakeOff_0 _ (List.mem_of_getElem? (i := 23) rfl)) (gi_cons (lg_wsX0_rakeOff_1 _ (List.mem_of_getElem? (i := 0) rfl)) (gi_cons (lg_wsX0_rakeOff_1 _ (List.mem_of_getElem? (i := 1) rfl)) (gi_cons (lg_wsX0_rakeOff_1 _ (List.mem_of_getElem? (i := 2) rfl)) (gi_cons (lg_wsX0_rakeOff_1 _ (List.mem_of_getElem? (i := 3) rfl)) (gi_cons (lg_wsX0_rakeOff_1 _ (List.mem_of_getElem? (i := 4) rfl)) (gi_cons (lg_wsX0_rakeOff_1 _ (List.mem_of_getElem? (i := 5) rfl)) (gi_cons (lg_wsX0_rakeOff_1 _ (List.mem_of_getElem? (i := 6) rfl)) gi_nil)))))))))))))))))))))))) (gi_cons (lg_wsX0_rakeOff_1 _ (List.mem_of_getElem? (i := 7) rfl)) (gi_cons (lg_wsX0_rakeOff_1 _ (List.mem_of_getElem? (i := 8) rfl)) (gi_cons (lg_wsX0_rakeOff_1 _ (List.mem_of_getElem? (i := 9) rfl)) (gi_cons (lg_wsX0_rakeOff_1 _ (List.mem_of_getElem? (i := 10) rfl)) gi_nil))))) ls_wsX0_rakeOff_1))
set_option maxRecDepth 20000 in
theorem gX0_rakeOff_X3_endingAt : GoodIn wsX0_rakeOff (wsV RX0 172 RX3 yX3_endingAt wsX3_endingAt) := goodIn_app (gi_cons (lg_wsX0_rakeOff_0 _ (List.mem_of_getElem? (i := 3) rfl)) (gi_cons (lg_wsX0_rakeOff_0 _ (List.mem_of_getElem? (i := 4) rfl)) (gi_cons (lg_wsX0_rakeOff_0 _ (List.mem_of_getElem? (i := 5) rfl)) (gi_cons (lg_wsX0_rakeOff_0 _ (List.mem_of_getElem? (i := 6) rfl)) gi_nil)))) ggX0_rakeOff_X3_endingAt
set_option maxRecDepth 20000 in
theorem ggX0_rakeOff_X3_otherEnd : GoodIn wsX0_rakeOff wsX3_otherEnd := (gi_cons (lg_wsX0_rakeOff_1 _ (List.mem_of_getElem? (i := 14) rfl)) (goodIn_app (gi_cons (lg_wsX0_rakeOff_0 _ (List.mem_of_getElem? (i := 13) rfl)) (gi_cons (lg_wsX0_rakeOff_0 _ (List.mem_of_getElem? (i := 14) rfl)) (gi_cons (lg_wsX0_rakeOff_0 _ (List.mem_of_getElem? (i := 15) rfl)) (gi_cons (lg_wsX0_rakeOff_0 _ (List.mem_of_getElem? (i := 6) rfl)) (gi_cons (lg_wsX0_rakeOff_0 _ (List.mem_of_getElem? (i := 16) rfl)) (gi_cons (lg_wsX0_rakeOff_0 _ (List.mem_of_getElem? (i := 17) rfl)) (gi_cons (lg_wsX0_rakeOff_0 _ (List.mem_of_getElem? (i := 18) rfl)) (gi_cons (lg_wsX0_rakeOff_0 _ (List.mem_of_getElem? (i := 19) rfl)) (gi_cons (lg_wsX0_rakeOff_0 _ (List.mem_of_getElem? (i := 20) rfl)) (gi_cons (lg_wsX0_rakeOff_0 _ (List.mem_of_getElem? (i := 21) rfl)) (gi_cons (lg_wsX0_rakeOff_0 _ (List.mem_of_getElem? (i := 22) rfl)) (gi_cons (lg_wsX0_rakeOff_0 _ (List.mem_of_getElem? (i := 23) rfl)) (gi_cons (lg_wsX0_rakeOff_1 _ (List.mem_of_getElem? (i := 0) rfl)) (gi_cons (lg_wsX0_rakeOff_1 _ (List.mem_of_getElem? (i := 1) rfl)) (gi_cons (lg_wsX0_rakeOff_0 _ (List.mem_of_getElem? (i := 8) rfl)) (gi_cons (lg_wsX0_rakeOff_1 _ (List.mem_of_getElem? (i := 2) rfl)) (gi_cons (lg_wsX0_rakeOff_1 _ (List.mem_of_getElem? (i := 3) rfl)) (gi_cons (lg_wsX0_rakeOff_1 _ (List.mem_of_getElem? (i := 4) rfl)) (gi_cons (lg_wsX0_rakeOff_1 _ (List.mem_of_getElem? (i := 5) rfl)) (gi_cons (lg_wsX0_rakeOff_1 _ (List.mem_of_getElem? (i := 6) rfl)) (gi_cons (lg_wsX0_rakeOff_1 _ (List.mem_of_getElem? (i := 7) rfl)) (gi_cons (lg_wsX0_rakeOff_1 _ (List.mem_of_getElem? (i := 8) rfl)) (gi_cons (lg_wsX0_rakeOff_1 _ (List.mem_of_getElem? (i := 9) rfl)) (gi_cons (lg_wsX0_rakeOff_1 _ (List.mem_of_getElem? (i := 10) rfl)) gi_nil)))))))))))))))))))))))) ls_wsX0_rakeOff_1))
set_option maxRecDepth 20000 in
theorem gX0_rakeOff_X3_otherEnd : GoodIn wsX0_rakeOff (wsV RX0 175 RX3 yX3_otherEnd wsX3_otherEnd) := goodIn_app (gi_cons (lg_wsX0_rakeOff_1 _ (List.mem_of_getElem? (i := 11) rfl)) (gi_cons (lg_wsX0_rakeOff_1 _ (List.mem_of_getElem? (i := 12) rfl)) (gi_cons (lg_wsX0_rakeOff_1 _ (List.mem_of_getElem? (i := 13) rfl)) (gi_cons (lg_wsX0_rakeOff_0 _ (List.mem_of_getElem? (i := 6) rfl)) gi_nil)))) ggX0_rakeOff_X3_otherEnd
set_option maxRecDepth 20000 in
theorem ggX0_rakeOff_X0_joinTunnels : GoodIn wsX0_rakeOff wsX0_joinTunnels := (gi_cons (lg_wsX0_rakeOff_1 _ (List.mem_of_getElem? (i := 19) rfl)) (goodIn_app (goodIn_app (goodIn_app (gi_cons (lg_wsX0_rakeOff_1 _ (List.mem_of_getElem? (i := 20) rfl)) (gi_cons (lg_wsX0_rakeOff_0 _ (List.mem_of_getElem? (i := 0) rfl)) (gi_cons (lg_wsX0_rakeOff_0 _ (List.mem_of_getElem? (i := 1) rfl)) (gi_cons (lg_wsX0_rakeOff_1 _ (List.mem_of_getElem? (i := 21) rfl)) (gi_cons (lg_wsX0_rakeOff_1 _ (List.mem_of_getElem? (i := 22) rfl)) (gi_cons (lg_wsX0_rakeOff_1 _ (List.mem_of_getElem? (i := 23) rfl)) (gi_cons (lg_wsX0_rakeOff_2 _ (List.mem_of_getElem? (i := 0) rfl)) (gi_cons (lg_wsX0_rakeOff_0 _ (List.mem_of_getElem? (i := 6) rfl)) (gi_cons (lg_wsX0_rakeOff_2 _ (List.mem_of_getElem? (i := 1) rfl)) (gi_cons (lg_wsX0_rakeOff_2 _ (List.mem_of_getElem? (i := 2) rfl)) (gi_cons (lg_wsX0_rakeOff_0 _ (List.mem_of_getElem? (i := 8) rfl)) (gi_cons (lg_wsX0_rakeOff_2 _ (List.mem_of_getElem? (i := 3) rfl)) (gi_cons (lg_wsX0_rakeOff_2 _ (List.mem_of_getElem? (i := 4) rfl)) (gi_cons (lg_wsX0_rakeOff_2 _ (List.mem_of_getElem? (i := 5) rfl)) (gi_cons (lg_wsX0_rakeOff_1 _ (List.mem_of_getElem? (i := 18) rfl)) (gi_cons (lg_wsX0_rakeOff_2 _ (List.mem_of_getElem? (i := 6) rfl)) (gi_cons (lg_wsX0_rakeOff_2 _ (List.mem_of_getElem? (i := 7) rfl)) (gi_cons (lg_wsX0_rakeOff_2 _ (List.mem_of_getElem? (i := 8) rfl)) (gi_cons (lg_wsX0_rakeOff_2 _ (List.mem_of_getElem? (i := 9) rfl)) (gi_cons (lg_wsX0_rakeOff_2 _ (List.mem_of_getElem? (i := 10) rfl)) (gi_cons (lg_wsX0_rakeOff_0 _ (List.mem_of_getElem? (i := 13) rfl)) (gi_cons (lg_wsX0_rakeOff_0 _ (List.mem_of_getElem? (i := 14) rfl)) (gi_cons (lg_wsX0_rakeOff_0 _ (List.mem_of_getElem? (i := 15) rfl)) (gi_cons (lg_wsX0_rakeOff_0 _ (List.mem_of_getElem? (i := 16) rfl)) gi_nil)))))))))))))))))))))))) (goodIn_app (gi_cons (lg_wsX0_rakeOff_0 _ (List.mem_of_getElem? (i := 17) rfl)) (gi_cons (lg_wsX0_rakeOff_0 _ (List.mem_of_getElem? (i := 18) rfl)) (gi_cons (lg_wsX0_rakeOff_0 _ (List.mem_of_getElem? (i := 19) rfl)) (gi_cons (lg_wsX0_rakeOff_0 _ (List.mem_of_getElem? (i := 20) rfl)) (gi_cons (lg_wsX0_rakeOff_0 _ (List.mem_of_getElem? (i := 21) rfl)) (gi_cons (lg_wsX0_rakeOff_0 _ (List.mem_of_getElem? (i := 22) rfl)) (gi_cons (lg_wsX0_rakeOff_0 _ (List.mem_of_getElem? (i := 23) rfl)) (gi_cons (lg_wsX0_rakeOff_1 _ (List.mem_of_getElem? (i := 0) rfl)) (gi_cons (lg_wsX0_rakeOff_1 _ (List.mem_of_getElem? (i := 1) rfl)) (gi_cons (lg_wsX0_rakeOff_1 _ (List.mem_of_getElem? (i := 2) rfl)) (gi_cons (lg_wsX0_rakeOff_1 _ (List.mem_of_getElem? (i := 3) rfl)) (gi_cons (lg_wsX0_rakeOff_1 _ (List.mem_of_getElem? (i := 4) rfl)) (gi_cons (lg_wsX0_rakeOff_1 _ (List.mem_of_getElem? (i := 5) rfl)) (gi_cons (lg_wsX0_rakeOff_1 _ (List.mem_of_getElem? (i := 6) rfl)) (gi_cons (lg_wsX0_rakeOff_1 _ (List.mem_of_getElem? (i := 7) rfl)) (gi_cons (lg_wsX0_rakeOff_1 _ (List.mem_of_getElem? (i := 8) rfl)) (gi_cons (lg_wsX0_rakeOff_1 _ (List.mem_of_getElem? (i := 9) rfl)) (gi_cons (lg_wsX0_rakeOff_1 _ (List.mem_of_getElem? (i := 10) rfl)) (gi_cons (lg_wsX0_rakeOff_2 _ (List.mem_of_getElem? (i := 11) rfl)) (gi_cons (lg_wsX0_rakeOff_2 _ (List.mem_of_getElem? (i := 12) rfl)) (gi_cons (lg_wsX0_rakeOff_2 _ (List.mem_of_getElem? (i := 13) rfl)) (gi_cons (lg_wsX0_rakeOff_2 _ (List.mem_of_getElem? (i := 14) rfl)) (gi_cons (lg_wsX0_rakeOff_2 _ (List.mem_of_getElem? (i := 15) rfl)) (gi_cons (lg_wsX0_rakeOff_2 _ (List.mem_of_getElem? (i := 16) rfl)) gi_nil)))))))))))))))))))))))) (gi_cons (lg_wsX0_rakeOff_2 _ (List.mem_of_getElem? (i := 17) rfl)) (gi_cons (lg_wsX0_rakeOff_2 _ (List.mem_of_getElem? (i := 18) rfl)) (gi_cons (lg_wsX0_rakeOff_2 _ (List.mem_of_getElem? (i := 19) rfl)) (gi_cons (lg_wsX0_rakeOff_2 _ (List.mem_of_getElem? (i := 20) rfl)) (gi_cons (lg_wsX0_rakeOff_2 _ (List.mem_of_getElem? (i := 21) rfl)) (gi_cons (lg_wsX0_rakeOff_2 _ (List.mem_of_getElem? (i := 22) rfl)) (gi_cons (lg_wsX0_rakeOff_2 _ (List.mem_of_getElem? (i := 23) rfl)) (gi_cons (lg_wsX0_rakeOff_3 _ (List.mem_of_getElem? (i := 0) rfl)) (gi_cons (lg_wsX0_rakeOff_3 _ (List.mem_of_getElem? (i := 1) rfl)) (gi_cons (lg_wsX0_rakeOff_3 _ (List.mem_of_getElem? (i := 2) rfl)) (gi_cons (lg_wsX0_rakeOff_3 _ (List.mem_of_getElem? (i := 3) rfl)) (gi_cons (lg_wsX0_rakeOff_3 _ (List.mem_of_getElem? (i := 4) rfl)) (gi_cons (lg_wsX0_rakeOff_3 _ (List.mem_of_getElem? (i := 5) rfl)) (gi_cons (lg_wsX0_rakeOff_3 _ (List.mem_of_getElem? (i := 6) rfl)) (gi_cons (lg_wsX0_rakeOff_3 _ (List.mem_of_getElem? (i := 7) rfl)) (gi_cons (lg_wsX0_rakeOff_3 _ (List.mem_of_getElem? (i := 8) rfl)) (gi_cons (lg_wsX0_rakeOff_3 _ (List.mem_of_getElem? (i := 9) rfl)) (gi_cons (lg_wsX0_rakeOff_3 _ (List.mem_of_getElem? (i := 10) rfl)) (gi_cons (lg_wsX0_rakeOff_3 _ (List.mem_of_getElem? (i := 11) rfl)) gi_nil))))))))))))))))))))) ls_wsX0_rakeOff_0) ls_wsX0_rakeOff_1))
set_option maxRecDepth 20000 in
theorem gX0_rakeOff_X0_joinTunnels : GoodIn wsX0_rakeOff (wsV RX0 178 RX0 yX0_joinTunnels wsX0_joinTunnels) := goodIn_app (gi_cons (lg_wsX0_rakeOff_1 _ (List.mem_of_getElem? (i := 15) rfl)) (gi_cons (lg_wsX0_rakeOff_1 _ (List.mem_of_getElem? (i := 16) rfl)) (gi_cons (lg_wsX0_rakeOff_1 _ (List.mem_of_getElem? (i := 17) rfl)) (gi_cons (lg_wsX0_rakeOff_1 _ (List.mem_of_getElem? (i := 18) rfl)) gi_nil)))) ggX0_rakeOff_X0_joinTunnels
set_option maxRecDepth 20000 in
theorem ggX0_rakeOff_X0_dropTunnels : GoodIn wsX0_rakeOff wsX0_dropTunnels := (gi_cons (lg_wsX0_rakeOff_3 _ (List.mem_of_getElem? (i := 15) rfl)) (goodIn_app (goodIn_app (goodIn_app (gi_cons (lg_wsX0_rakeOff_0 _ (List.mem_of_getElem? (i := 0) rfl)) (gi_cons (lg_wsX0_rakeOff_0 _ (List.mem_of_getElem? (i := 1) rfl)) (gi_cons (lg_wsX0_rakeOff_1 _ (List.mem_of_getElem? (i := 20) rfl)) (gi_cons (lg_wsX0_rakeOff_1 _ (List.mem_of_getElem? (i := 21) rfl)) (gi_cons (lg_wsX0_rakeOff_3 _ (List.mem_of_getElem? (i := 16) rfl)) (gi_cons (lg_wsX0_rakeOff_1 _ (List.mem_of_getElem? (i := 22) rfl)) (gi_cons (lg_wsX0_rakeOff_1 _ (List.mem_of_getElem? (i := 23) rfl)) (gi_cons (lg_wsX0_rakeOff_2 _ (List.mem_of_getElem? (i := 0) rfl)) (gi_cons (lg_wsX0_rakeOff_0 _ (List.mem_of_getElem? (i := 6) rfl)) (gi_cons (lg_wsX0_rakeOff_2 _ (List.mem_of_getElem? (i := 1) rfl)) (gi_cons (lg_wsX0_rakeOff_2 _ (List.mem_of_getElem? (i := 2) rfl)) (gi_cons (lg_wsX0_rakeOff_0 _ (List.mem_of_getElem? (i := 8) rfl)) (gi_cons (lg_wsX0_rakeOff_3 _ (List.mem_of_getElem? (i := 17) rfl)) (gi_cons (lg_wsX0_rakeOff_3 _ (List.mem_of_getElem? (i := 18) rfl)) (gi_cons (lg_wsX0_rakeOff_3 _ (List.mem_of_getElem? (i := 19) rfl)) (gi_cons (lg_wsX0_rakeOff_3 _ (List.mem_of_getElem? (i := 20) rfl)) (gi_cons (lg_wsX0_rakeOff_0 _ (List.mem_of_getElem? (i := 21) rfl)) (gi_cons (lg_wsX0_rakeOff_0 _ (List.mem_of_getElem? (i := 22) rfl)) (gi_cons (lg_wsX0_rakeOff_0 _ (List.mem_of_getElem? (i := 23) rfl)) (gi_cons (lg_wsX0_rakeOff_1 _ (List.mem_of_getElem? (i := 0) rfl)) (gi_cons (lg_wsX0_rakeOff_1 _ (List.mem_of_getElem? (i := 1) rfl)) (gi_cons (lg_wsX0_rakeOff_1 _ (List.mem_of_getElem? (i := 2) rfl)) (gi_cons (lg_wsX0_rakeOff_1 _ (List.mem_of_getElem? (i := 3) rfl)) (gi_cons (lg_wsX0_rakeOff_1 _ (List.mem_of_getElem? (i := 4) rfl)) gi_nil)))))))))))))))))))))))) (gi_cons (lg_wsX0_rakeOff_1 _ (List.mem_of_getElem? (i := 5) rfl)) (gi_cons (lg_wsX0_rakeOff_1 _ (List.mem_of_getElem? (i := 6) rfl)) (gi_cons (lg_wsX0_rakeOff_2 _ (List.mem_of_getElem? (i := 22) rfl)) (gi_cons (lg_wsX0_rakeOff_2 _ (List.mem_of_getElem? (i := 23) rfl)) (gi_cons (lg_wsX0_rakeOff_3 _ (List.mem_of_getElem? (i := 0) rfl)) (gi_cons (lg_wsX0_rakeOff_3 _ (List.mem_of_getElem? (i := 1) rfl)) (gi_cons (lg_wsX0_rakeOff_3 _ (List.mem_of_getElem? (i := 2) rfl)) (gi_cons (lg_wsX0_rakeOff_3 _ (List.mem_of_getElem? (i := 3) rfl)) (gi_cons (lg_wsX0_rakeOff_3 _ (List.mem_of_getElem? (i := 4) rfl)) (gi_cons (lg_wsX0_rakeOff_3 _ (List.mem_of_getElem? (i := 5) rfl)) (gi_cons (lg_wsX0_rakeOff_3 _ (List.mem_of_getElem? (i := 6) rfl)) (gi_cons (lg_wsX0_rakeOff_3 _ (List.mem_of_getElem? (i := 7) rfl)) (gi_cons (lg_wsX0_rakeOff_3 _ (List.mem_of_getElem? (i := 8) rfl)) (gi_cons (lg_wsX0_rakeOff_3 _ (List.mem_of_getElem? (i := 9) rfl)) (gi_cons (lg_wsX0_rakeOff_3 _ (List.mem_of_getElem? (i := 10) rfl)) (gi_cons (lg_wsX0_rakeOff_3 _ (List.mem_of_getElem? (i := 11) rfl)) gi_nil))))))))))))))))) ls_wsX0_rakeOff_0) ls_wsX0_rakeOff_1))
set_option maxRecDepth 20000 in
theorem gX0_rakeOff_X0_dropTunnels : GoodIn wsX0_rakeOff (wsV RX0 162 RX0 yX0_dropTunnels wsX0_dropTunnels) := goodIn_app (gi_cons (lg_wsX0_rakeOff_3 _ (List.mem_of_getElem? (i := 12) rfl)) (gi_cons (lg_wsX0_rakeOff_3 _ (List.mem_of_getElem? (i := 13) rfl)) (gi_cons (lg_wsX0_rakeOff_3 _ (List.mem_of_getElem? (i := 14) rfl)) (gi_cons (lg_wsX0_rakeOff_1 _ (List.mem_of_getElem? (i := 18) rfl)) gi_nil)))) ggX0_rakeOff_X0_dropTunnels
theorem dX0_rakeOff_0 : decode cX0_rakeOff 0 = .ok (.aload_n 0, 1) := by decide +kernel
theorem dX0_rakeOff_1 : decode cX0_rakeOff 1 = .ok (.getfield 28, 3) := by decide +kernel
theorem dX0_rakeOff_4 : decode cX0_rakeOff 4 = .ok (.getfield 123, 3) := by decide +kernel
theorem dX0_rakeOff_7 : decode cX0_rakeOff 7 = .ok (.istore_n 2, 1) := by decide +kernel
theorem dX0_rakeOff_8 : decode cX0_rakeOff 8 = .ok (.aload_n 0, 1) := by decide +kernel
theorem dX0_rakeOff_9 : decode cX0_rakeOff 9 = .ok (.getfield 9, 3) := by decide +kernel
theorem dX0_rakeOff_12 : decode cX0_rakeOff 12 = .ok (.iload_n 1, 1) := by decide +kernel
theorem dX0_rakeOff_13 : decode cX0_rakeOff 13 = .ok (.iconst 0, 1) := by decide +kernel
theorem dX0_rakeOff_14 : decode cX0_rakeOff 14 = .ok (.bastore, 1) := by decide +kernel
theorem dX0_rakeOff_15 : decode cX0_rakeOff 15 = .ok (.aload_n 0, 1) := by decide +kernel
theorem dX0_rakeOff_16 : decode cX0_rakeOff 16 = .ok (.getfield 28, 3) := by decide +kernel
theorem dX0_rakeOff_19 : decode cX0_rakeOff 19 = .ok (.iload_n 1, 1) := by decide +kernel
theorem dX0_rakeOff_20 : decode cX0_rakeOff 20 = .ok (.iconst 0, 1) := by decide +kernel
theorem dX0_rakeOff_21 : decode cX0_rakeOff 21 = .ok (.invokevirtual 172, 3) := by decide +kernel
theorem dX0_rakeOff_24 : decode cX0_rakeOff 24 = .ok (.istore_n 3, 1) := by decide +kernel
theorem dX0_rakeOff_25 : decode cX0_rakeOff 25 = .ok (.iload_n 3, 1) := by decide +kernel
theorem dX0_rakeOff_26 : decode cX0_rakeOff 26 = .ok (.iconst (-1), 1) := by decide +kernel
theorem dX0_rakeOff_27 : decode cX0_rakeOff 27 = .ok (.if_icmp .ne 7, 3) := by decide +kernel
theorem dX0_rakeOff_30 : decode cX0_rakeOff 30 = .ok (.iconst (-1), 1) := by decide +kernel
theorem dX0_rakeOff_31 : decode cX0_rakeOff 31 = .ok (.goto 14, 3) := by decide +kernel
theorem dX0_rakeOff_34 : decode cX0_rakeOff 34 = .ok (.aload_n 0, 1) := by decide +kernel
theorem dX0_rakeOff_35 : decode cX0_rakeOff 35 = .ok (.getfield 28, 3) := by decide +kernel
theorem dX0_rakeOff_38 : decode cX0_rakeOff 38 = .ok (.iload_n 1, 1) := by decide +kernel
theorem dX0_rakeOff_39 : decode cX0_rakeOff 39 = .ok (.iload_n 3, 1) := by decide +kernel
theorem dX0_rakeOff_40 : decode cX0_rakeOff 40 = .ok (.iconst 1, 1) := by decide +kernel
theorem dX0_rakeOff_41 : decode cX0_rakeOff 41 = .ok (.iadd, 1) := by decide +kernel
theorem dX0_rakeOff_42 : decode cX0_rakeOff 42 = .ok (.invokevirtual 172, 3) := by decide +kernel
theorem dX0_rakeOff_45 : decode cX0_rakeOff 45 = .ok (.istore 4, 2) := by decide +kernel
theorem dX0_rakeOff_47 : decode cX0_rakeOff 47 = .ok (.iload 4, 2) := by decide +kernel
theorem dX0_rakeOff_49 : decode cX0_rakeOff 49 = .ok (.iconst (-1), 1) := by decide +kernel
theorem dX0_rakeOff_50 : decode cX0_rakeOff 50 = .ok (.if_icmp .eq 23, 3) := by decide +kernel
theorem dX0_rakeOff_53 : decode cX0_rakeOff 53 = .ok (.aload_n 0, 1) := by decide +kernel
theorem dX0_rakeOff_54 : decode cX0_rakeOff 54 = .ok (.getfield 28, 3) := by decide +kernel
theorem dX0_rakeOff_57 : decode cX0_rakeOff 57 = .ok (.iload_n 1, 1) := by decide +kernel
theorem dX0_rakeOff_58 : decode cX0_rakeOff 58 = .ok (.iload 4, 2) := by decide +kernel
theorem dX0_rakeOff_60 : decode cX0_rakeOff 60 = .ok (.iconst 1, 1) := by decide +kernel
theorem dX0_rakeOff_61 : decode cX0_rakeOff 61 = .ok (.iadd, 1) := by decide +kernel
theorem dX0_rakeOff_62 : decode cX0_rakeOff 62 = .ok (.invokevirtual 172, 3) := by decide +kernel
theorem dX0_rakeOff_65 : decode cX0_rakeOff 65 = .ok (.iconst (-1), 1) := by decide +kernel
theorem dX0_rakeOff_66 : decode cX0_rakeOff 66 = .ok (.if_icmp .ne 7, 3) := by decide +kernel
theorem dX0_rakeOff_69 : decode cX0_rakeOff 69 = .ok (.iconst 1, 1) := by decide +kernel
theorem dX0_rakeOff_70 : decode cX0_rakeOff 70 = .ok (.goto 4, 3) := by decide +kernel
theorem dX0_rakeOff_73 : decode cX0_rakeOff 73 = .ok (.iconst 0, 1) := by decide +kernel
theorem dX0_rakeOff_74 : decode cX0_rakeOff 74 = .ok (.istore 5, 2) := by decide +kernel
theorem dX0_rakeOff_76 : decode cX0_rakeOff 76 = .ok (.iload 5, 2) := by decide +kernel
theorem dX0_rakeOff_78 : decode cX0_rakeOff 78 = .ok (.ifCond .eq 36, 3) := by decide +kernel
theorem dX0_rakeOff_81 : decode cX0_rakeOff 81 = .ok (.aload_n 0, 1) := by decide +kernel
theorem dX0_rakeOff_82 : decode cX0_rakeOff 82 = .ok (.getfield 28, 3) := by decide +kernel
theorem dX0_rakeOff_85 : decode cX0_rakeOff 85 = .ok (.iload_n 3, 1) := by decide +kernel
theorem dX0_rakeOff_86 : decode cX0_rakeOff 86 = .ok (.iload_n 1, 1) := by decide +kernel
theorem dX0_rakeOff_87 : decode cX0_rakeOff 87 = .ok (.invokevirtual 175, 3) := by decide +kernel
theorem dX0_rakeOff_90 : decode cX0_rakeOff 90 = .ok (.aload_n 0, 1) := by decide +kernel
theorem dX0_rakeOff_91 : decode cX0_rakeOff 91 = .ok (.getfield 28, 3) := by decide +kernel
theorem dX0_rakeOff_94 : decode cX0_rakeOff 94 = .ok (.iload 4, 2) := by decide +kernel
theorem dX0_rakeOff_96 : decode cX0_rakeOff 96 = .ok (.iload_n 1, 1) := by decide +kernel
theorem dX0_rakeOff_97 : decode cX0_rakeOff 97 = .ok (.invokevirtual 175, 3) := by decide +kernel
theorem dX0_rakeOff_100 : decode cX0_rakeOff 100 = .ok (.if_icmp .eq 14, 3) := by decide +kernel
theorem dX0_rakeOff_103 : decode cX0_rakeOff 103 = .ok (.aload_n 0, 1) := by decide +kernel
theorem dX0_rakeOff_104 : decode cX0_rakeOff 104 = .ok (.iload_n 3, 1) := by decide +kernel
theorem dX0_rakeOff_105 : decode cX0_rakeOff 105 = .ok (.iload 4, 2) := by decide +kernel
theorem dX0_rakeOff_107 : decode cX0_rakeOff 107 = .ok (.iload_n 1, 1) := by decide +kernel
theorem dX0_rakeOff_108 : decode cX0_rakeOff 108 = .ok (.invokevirtual 178, 3) := by decide +kernel
theorem dX0_rakeOff_111 : decode cX0_rakeOff 111 = .ok (.goto 8, 3) := by decide +kernel
theorem dX0_rakeOff_114 : decode cX0_rakeOff 114 = .ok (.aload_n 0, 1) := by decide +kernel
theorem dX0_rakeOff_115 : decode cX0_rakeOff 115 = .ok (.iload_n 1, 1) := by decide +kernel
theorem dX0_rakeOff_116 : decode cX0_rakeOff 116 = .ok (.invokevirtual 162, 3) := by decide +kernel
theorem dX0_rakeOff_119 : decode cX0_rakeOff 119 = .ok (.iload_n 2, 1) := by decide +kernel
theorem dX0_rakeOff_120 : decode cX0_rakeOff 120 = .ok (.aload_n 0, 1) := by decide +kernel
theorem dX0_rakeOff_121 : decode cX0_rakeOff 121 = .ok (.getfield 28, 3) := by decide +kernel
theorem dX0_rakeOff_124 : decode cX0_rakeOff 124 = .ok (.getfield 123, 3) := by decide +kernel
theorem dX0_rakeOff_127 : decode cX0_rakeOff 127 = .ok (.isub, 1) := by decide +kernel
theorem dX0_rakeOff_128 : decode cX0_rakeOff 128 = .ok (.ireturn, 1) := by decide +kernel
theorem lg_wsX0_joinTunnels_0 : GoodIn wsX0_joinTunnels wsX0_joinTunnels_r1 := goodIn_sub (fun _ h => (List.mem_cons_of_mem _ (List.mem_append_left _ (List.mem_append_left _ (List.mem_append_left _ h))))) (by decide +kernel)
theorem lg_wsX0_joinTunnels_1 : GoodIn wsX0_joinTunnels wsX0_joinTunnels_r2 := goodIn_sub (fun _ h => (List.mem_cons_of_mem _ (List.mem_append_left _ (List.mem_append_left _ (List.mem_append_right _ (List.mem_append_left _ h)))))) (by decide +kernel)
theorem lg_wsX0_joinTunnels_2 : GoodIn wsX0_joinTunnels wsX0_joinTunnels_r3 := goodIn_sub (fun _ h => (List.mem_cons_of_mem _ (List.mem_append_left _ (List.mem_append_left _ (List.mem_append_right _ (List.mem_append_right _ h)))))) (by decide +kernel)
theorem ls_wsX0_joinTunnels_0 : GoodIn wsX0_joinTunnels wsX00 := goodIn_sub (fun _ h => (List.mem_cons_of_mem _ (List.mem_append_left _ (List.mem_append_right _ h)))) (by decide +kernel)
theorem ls_wsX0_joinTunnels_1 : GoodIn wsX0_joinTunnels wsX30 := goodIn_sub (fun _ h => (List.mem_cons_of_mem _ (List.mem_append_right _ h))) (by decide +kernel)
set_option maxRecDepth 20000 in
theorem ggX0_joinTunnels_X3_empty : GoodIn wsX0_joinTunnels wsX3_empty := (gi_cons (lg_wsX0_joinTunnels_0 _ (List.mem_of_getElem? (i := 8) rfl)) (goodIn_app (gi_cons (lg_wsX0_joinTunnels_0 _ (List.mem_of_getElem? (i := 9) rfl)) (gi_cons (lg_wsX0_joinTunnels_0 _ (List.mem_of_getElem? (i := 10) rfl)) gi_nil)) ls_wsX0_joinTunnels_1))
set_option maxRecDepth 20000 in
theorem gX0_joinTunnels_X3_empty : GoodIn wsX0_joinTunnels (wsV RX0 120 RX3 yX3_empty wsX3_empty) := goodIn_app (gi_cons (lg_wsX0_joinTunnels_0 _ (List.mem_of_getElem? (i := 4) rfl)) (gi_cons (lg_wsX0_joinTunnels_0 _ (List.mem_of_getElem? (i := 5) rfl)) (gi_cons (lg_wsX0_joinTunnels_0 _ (List.mem_of_getElem? (i := 6) rfl)) (gi_cons (lg_wsX0_joinTunnels_0 _ (List.mem_of_getElem? (i := 7) rfl)) gi_nil)))) ggX0_joinTunnels_X3_empty
set_option maxRecDepth 20000 in
theorem ggX0_joinTunnels_X0_putJoined : GoodIn wsX0_joinTunnels wsX0_putJoined := (gi_cons (lg_wsX0_joinTunnels_0 _ (List.mem_of_getElem? (i := 15) rfl)) (goodIn_app (goodIn_app (goodIn_app (gi_cons (lg_wsX0_joinTunnels_0 _ (List.mem_of_getElem? (i := 1) rfl)) (gi_cons (lg_wsX0_joinTunnels_0 _ (List.mem_of_getElem? (i := 0) rfl)) (gi_cons (lg_wsX0_joinTunnels_0 _ (List.mem_of_getElem? (i := 16) rfl)) (gi_cons (lg_wsX0_joinTunnels_0 _ (List.mem_of_getElem? (i := 17) rfl)) (gi_cons (lg_wsX0_joinTunnels_0 _ (List.mem_of_getElem? (i := 18) rfl)) (gi_cons (lg_wsX0_joinTunnels_0 _ (List.mem_of_getElem? (i := 7) rfl)) (gi_cons (lg_wsX0_joinTunnels_0 _ (List.mem_of_getElem? (i := 19) rfl)) (gi_cons (lg_wsX0_joinTunnels_0 _ (List.mem_of_getElem? (i := 20) rfl)) (gi_cons (lg_wsX0_joinTunnels_0 _ (List.mem_of_getElem? (i := 21) rfl)) (gi_cons (lg_wsX0_joinTunnels_0 _ (List.mem_of_getElem? (i := 22) rfl)) (gi_cons (lg_wsX0_joinTunnels_0 _ (List.mem_of_getElem? (i := 23) rfl)) (gi_cons (lg_wsX0_joinTunnels_1 _ (List.mem_of_getElem? (i := 0) rfl)) (gi_cons (lg_wsX0_joinTunnels_1 _ (List.mem_of_getElem? (i := 1) rfl)) (gi_cons (lg_wsX0_joinTunnels_1 _ (List.mem_of_getElem? (i := 2) rfl)) (gi_cons (lg_wsX0_joinTunnels_1 _ (List.mem_of_getElem? (i := 3) rfl)) (gi_cons (lg_wsX0_joinTunnels_1 _ (List.mem_of_getElem? (i := 4) rfl)) (gi_cons (lg_wsX0_joinTunnels_1 _ (List.mem_of_getElem? (i := 5) rfl)) (gi_cons (lg_wsX0_joinTunnels_1 _ (List.mem_of_getElem? (i := 6) rfl)) (gi_cons (lg_wsX0_joinTunnels_1 _ (List.mem_of_getElem? (i := 7) rfl)) (gi_cons (lg_wsX0_joinTunnels_1 _ (List.mem_of_getElem? (i := 8) rfl)) (gi_cons (lg_wsX0_joinTunnels_0 _ (List.mem_of_getElem? (i := 10) rfl)) (gi_cons (lg_wsX0_joinTunnels_1 _ (List.mem_of_getElem? (i := 9) rfl)) (gi_cons (lg_wsX0_joinTunnels_1 _ (List.mem_of_getElem? (i := 10) rfl)) (gi_cons (lg_wsX0_joinTunnels_1 _ (List.mem_of_getElem? (i := 11) rfl)) gi_nil)))))))))))))))))))))))) (gi_cons (lg_wsX0_joinTunnels_1 _ (List.mem_of_getElem? (i := 12) rfl)) (gi_cons (lg_wsX0_joinTunnels_1 _ (List.mem_of_getElem? (i := 13) rfl)) (gi_cons (lg_wsX0_joinTunnels_1 _ (List.mem_of_getElem? (i := 14) rfl)) (gi_cons (lg_wsX0_joinTunnels_1 _ (List.mem_of_getElem? (i := 15) rfl)) (gi_cons (lg_wsX0_joinTunnels_1 _ (List.mem_of_getElem? (i := 16) rfl)) (gi_cons (lg_wsX0_joinTunnels_1 _ (List.mem_of_getElem? (i := 17) rfl)) (gi_cons (lg_wsX0_joinTunnels_1 _ (List.mem_of_getElem? (i := 18) rfl)) (gi_cons (lg_wsX0_joinTunnels_1 _ (List.mem_of_getElem? (i := 19) rfl)) (gi_cons (lg_wsX0_joinTunnels_1 _ (List.mem_of_getElem? (i := 20) rfl)) (gi_cons (lg_wsX0_joinTunnels_1 _ (List.mem_of_getElem? (i := 21) rfl)) (gi_cons (lg_wsX0_joinTunnels_1 _ (List.mem_of_getElem? (i := 22) rfl)) (gi_cons (lg_wsX0_joinTunnels_1 _ (List.mem_of_getElem? (i := 23) rfl)) (gi_cons (lg_wsX0_joinTunnels_0 _ (List.mem_of_getElem? (i := 9) rfl)) (gi_cons (lg_wsX0_joinTunnels_2 _ (List.mem_of_getElem? (i := 0) rfl)) (gi_cons (lg_wsX0_joinTunnels_2 _ (List.mem_of_getElem? (i := 1) rfl)) (gi_cons (lg_wsX0_joinTunnels_2 _ (List.mem_of_getElem? (i := 2) rfl)) (gi_cons (lg_wsX0_joinTunnels_2 _ (List.mem_of_getElem? (i := 3) rfl)) (gi_cons (lg_wsX0_joinTunnels_2 _ (List.mem_of_getElem? (i := 4) rfl)) gi_nil))))))))))))))))))) ls_wsX0_joinTunnels_0) ls_wsX0_joinTunnels_1))
set_option maxRecDepth 20000 in
theorem gX0_joinTunnels_X0_putJoined : GoodIn wsX0_joinTunnels (wsV RX0 182 RX0 yX0_putJoined wsX0_putJoined) := goodIn_app (gi_cons (lg_wsX0_joinTunnels_0 _ (List.mem_of_getElem? (i := 11) rfl)) (gi_cons (lg_wsX0_joinTunnels_0 _ (List.mem_of_getElem? (i := 12) rfl)) (gi_cons (lg_wsX0_joinTunnels_0 _ (List.mem_of_getElem? (i := 13) rfl)) (gi_cons (lg_wsX0_joinTunnels_0 _ (List.mem_of_getElem? (i := 14) rfl)) gi_nil)))) ggX0_joinTunnels_X0_putJoined
set_option maxRecDepth 20000 in
theorem ggX0_joinTunnels_X3_from : GoodIn wsX0_joinTunnels wsX3_from := (gi_cons (lg_wsX0_joinTunnels_1 _ (List.mem_of_getElem? (i := 13) rfl)) (goodIn_app (gi_cons (lg_wsX0_joinTunnels_0 _ (List.mem_of_getElem? (i := 10) rfl)) (gi_cons (lg_wsX0_joinTunnels_1 _ (List.mem_of_getElem? (i := 9) rfl)) gi_nil)) ls_wsX0_joinTunnels_1))
set_option maxRecDepth 20000 in
theorem gX0_joinTunnels_X3_from : GoodIn wsX0_joinTunnels (wsV RX0 131 RX3 yX3_from wsX3_from) := goodIn_app (gi_cons (lg_wsX0_joinTunnels_2 _ (List.mem_of_getElem? (i := 5) rfl)) (gi_cons (lg_wsX0_joinTunnels_1 _ (List.mem_of_getElem? (i := 11) rfl)) (gi_cons (lg_wsX0_joinTunnels_1 _ (List.mem_of_getElem? (i := 12) rfl)) (gi_cons (lg_wsX0_joinTunnels_0 _ (List.mem_of_getElem? (i := 7) rfl)) gi_nil)))) ggX0_joinTunnels_X3_from
set_option maxRecDepth 20000 in
theorem ggX0_joinTunnels_X3_to : GoodIn wsX0_joinTunnels wsX3_to := (gi_cons (lg_wsX0_joinTunnels_1 _ (List.mem_of_getElem? (i := 8) rfl)) (goodIn_app (gi_cons (lg_wsX0_joinTunnels_0 _ (List.mem_of_getElem? (i := 10) rfl)) (gi_cons (lg_wsX0_joinTunnels_1 _ (List.mem_of_getElem? (i := 9) rfl)) gi_nil)) ls_wsX0_joinTunnels_1))
set_option maxRecDepth 20000 in
theorem gX0_joinTunnels_X3_to : GoodIn wsX0_joinTunnels (wsV RX0 134 RX3 yX3_to wsX3_to) := goodIn_app (gi_cons (lg_wsX0_joinTunnels_2 _ (List.mem_of_getElem? (i := 6) rfl)) (gi_cons (lg_wsX0_joinTunnels_1 _ (List.mem_of_getElem? (i := 6) rfl)) (gi_cons (lg_wsX0_joinTunnels_1 _ (List.mem_of_getElem? (i := 7) rfl)) (gi_cons (lg_wsX0_joinTunnels_0 _ (List.mem_of_getElem? (i := 7) rfl)) gi_nil)))) ggX0_joinTunnels_X3_to
set_option maxRecDepth 20000 in
theorem ggX0_joinTunnels_X3_addRow : GoodIn wsX0_joinTunnels wsX3_addRow := (gi_cons (lg_wsX0_joinTunnels_2 _ (List.mem_of_getElem? (i := 10) rfl)) (goodIn_app (gi_cons (lg_wsX0_joinTunnels_0 _ (List.mem_of_getElem? (i := 10) rfl)) (gi_cons (lg_wsX0_joinTunnels_1 _ (List.mem_of_getElem? (i := 9) rfl)) (gi_cons (lg_wsX0_joinTunnels_1 _ (List.mem_of_getElem? (i := 4) rfl)) (gi_cons (lg_wsX0_joinTunnels_0 _ (List.mem_of_getElem? (i := 9) rfl)) (gi_cons (lg_wsX0_joinTunnels_2 _ (List.mem_of_getElem? (i := 11) rfl)) (gi_cons (lg_wsX0_joinTunnels_2 _ (List.mem_of_getElem? (i := 12) rfl)) (gi_cons (lg_wsX0_joinTunnels_2 _ (List.mem_of_getElem? (i := 13) rfl)) (gi_cons (lg_wsX0_joinTunnels_2 _ (List.mem_of_getElem? (i := 14) rfl)) gi_nil)))))))) ls_wsX0_joinTunnels_1))
set_option maxRecDepth 20000 in
theorem gX0_joinTunnels_X3_addRow : GoodIn wsX0_joinTunnels (wsV RX0 113 RX3 yX3_addRow wsX3_addRow) := goodIn_app (gi_cons (lg_wsX0_joinTunnels_2 _ (List.mem_of_getElem? (i := 7) rfl)) (gi_cons (lg_wsX0_joinTunnels_2 _ (List.mem_of_getElem? (i := 8) rfl)) (gi_cons (lg_wsX0_joinTunnels_2 _ (List.mem_of_getElem? (i := 9) rfl)) (gi_cons (lg_wsX0_joinTunnels_0 _ (List.mem_of_getElem? (i := 7) rfl)) gi_nil)))) ggX0_joinTunnels_X3_addRow
set_option maxRecDepth 20000 in
theorem ggX0_joinTunnels_X3_copyFrom : GoodIn wsX0_joinTunnels wsX3_copyFrom := (gi_cons (lg_wsX0_joinTunnels_2 _ (List.mem_of_getElem? (i := 18) rfl)) (goodIn_app (gi_cons (lg_wsX0_joinTunnels_0 _ (List.mem_of_getElem? (i := 9) rfl)) (gi_cons (lg_wsX0_joinTunnels_0 _ (List.mem_of_getElem? (i := 10) rfl)) (gi_cons (lg_wsX0_joinTunnels_1 _ (List.mem_of_getElem? (i := 4) rfl)) (gi_cons (lg_wsX0_joinTunnels_2 _ (List.mem_of_getElem? (i := 11) rfl)) (gi_cons (lg_wsX0_joinTunnels_2 _ (List.mem_of_getElem? (i := 12) rfl)) (gi_cons (lg_wsX0_joinTunnels_2 _ (List.mem_of_getElem? (i := 13) rfl)) (gi_cons (lg_wsX0_joinTunnels_2 _ (List.mem_of_getElem? (i := 14) rfl)) (gi_cons (lg_wsX0_joinTunnels_1 _ (List.mem_of_getElem? (i := 9) rfl)) gi_nil)))))))) ls_wsX0_joinTunnels_1))
set_option maxRecDepth 20000 in
theorem gX0_joinTunnels_X3_copyFrom : GoodIn wsX0_joinTunnels (wsV RX0 52 RX3 yX3_copyFrom wsX3_copyFrom) := goodIn_app (gi_cons (lg_wsX0_joinTunnels_2 _ (List.mem_of_getElem? (i := 15) rfl)) (gi_cons (lg_wsX0_joinTunnels_2 _ (List.mem_of_getElem? (i := 16) rfl)) (gi_cons (lg_wsX0_joinTunnels_2 _ (List.mem_of_getElem? (i := 17) rfl)) (gi_cons (lg_wsX0_joinTunnels_0 _ (List.mem_of_getElem? (i := 7) rfl)) gi_nil)))) ggX0_joinTunnels_X3_copyFrom
theorem dX0_joinTunnels_0 : decode cX0_joinTunnels 0 = .ok (.aload_n 0, 1) := by decide +kernel
theorem dX0_joinTunnels_1 : decode cX0_joinTunnels 1 = .ok (.getfield 42, 3) := by decide +kernel
theorem dX0_joinTunnels_4 : decode cX0_joinTunnels 4 = .ok (.invokevirtual 120, 3) := by decide +kernel
theorem dX0_joinTunnels_7 : decode cX0_joinTunnels 7 = .ok (.iconst 0, 1) := by decide +kernel
theorem dX0_joinTunnels_8 : decode cX0_joinTunnels 8 = .ok (.istore 4, 2) := by decide +kernel
theorem dX0_joinTunnels_10 : decode cX0_joinTunnels 10 = .ok (.iload 4, 2) := by decide +kernel
theorem dX0_joinTunnels_12 : decode cX0_joinTunnels 12 = .ok (.aload_n 0, 1) := by decide +kernel
theorem dX0_joinTunnels_13 : decode cX0_joinTunnels 13 = .ok (.getfield 28, 3) := by decide +kernel
theorem dX0_joinTunnels_16 : decode cX0_joinTunnels 16 = .ok (.getfield 123, 3) := by decide +kernel
theorem dX0_joinTunnels_19 : decode cX0_joinTunnels 19 = .ok (.if_icmp .ge 63, 3) := by decide +kernel
theorem dX0_joinTunnels_22 : decode cX0_joinTunnels 22 = .ok (.iload 4, 2) := by decide +kernel
theorem dX0_joinTunnels_24 : decode cX0_joinTunnels 24 = .ok (.iload_n 1, 1) := by decide +kernel
theorem dX0_joinTunnels_25 : decode cX0_joinTunnels 25 = .ok (.if_icmp .ne 13, 3) := by decide +kernel
theorem dX0_joinTunnels_28 : decode cX0_joinTunnels 28 = .ok (.aload_n 0, 1) := by decide +kernel
theorem dX0_joinTunnels_29 : decode cX0_joinTunnels 29 = .ok (.iload_n 1, 1) := by decide +kernel
theorem dX0_joinTunnels_30 : decode cX0_joinTunnels 30 = .ok (.iload_n 2, 1) := by decide +kernel
theorem dX0_joinTunnels_31 : decode cX0_joinTunnels 31 = .ok (.iload_n 3, 1) := by decide +kernel
theorem dX0_joinTunnels_32 : decode cX0_joinTunnels 32 = .ok (.invokevirtual 182, 3) := by decide +kernel
theorem dX0_joinTunnels_35 : decode cX0_joinTunnels 35 = .ok (.goto 41, 3) := by decide +kernel
theorem dX0_joinTunnels_38 : decode cX0_joinTunnels 38 = .ok (.iload 4, 2) := by decide +kernel
theorem dX0_joinTunnels_40 : decode cX0_joinTunnels 40 = .ok (.iload_n 2, 1) := by decide +kernel
theorem dX0_joinTunnels_41 : decode cX0_joinTunnels 41 = .ok (.if_icmp .eq 35, 3) := by decide +kernel
theorem dX0_joinTunnels_44 : decode cX0_joinTunnels 44 = .ok (.aload_n 0, 1) := by decide +kernel
theorem dX0_joinTunnels_45 : decode cX0_joinTunnels 45 = .ok (.getfield 42, 3) := by decide +kernel
theorem dX0_joinTunnels_48 : decode cX0_joinTunnels 48 = .ok (.aload_n 0, 1) := by decide +kernel
theorem dX0_joinTunnels_49 : decode cX0_joinTunnels 49 = .ok (.getfield 28, 3) := by decide +kernel
theorem dX0_joinTunnels_52 : decode cX0_joinTunnels 52 = .ok (.getfield 128, 3) := by decide +kernel
theorem dX0_joinTunnels_55 : decode cX0_joinTunnels 55 = .ok (.aload_n 0, 1) := by decide +kernel
theorem dX0_joinTunnels_56 : decode cX0_joinTunnels 56 = .ok (.getfield 28, 3) := by decide +kernel
theorem dX0_joinTunnels_59 : decode cX0_joinTunnels 59 = .ok (.iload 4, 2) := by decide +kernel
theorem dX0_joinTunnels_61 : decode cX0_joinTunnels 61 = .ok (.invokevirtual 131, 3) := by decide +kernel
theorem dX0_joinTunnels_64 : decode cX0_joinTunnels 64 = .ok (.aload_n 0, 1) := by decide +kernel
theorem dX0_joinTunnels_65 : decode cX0_joinTunnels 65 = .ok (.getfield 28, 3) := by decide +kernel
theorem dX0_joinTunnels_68 : decode cX0_joinTunnels 68 = .ok (.iload 4, 2) := by decide +kernel
theorem dX0_joinTunnels_70 : decode cX0_joinTunnels 70 = .ok (.invokevirtual 134, 3) := by decide +kernel
theorem dX0_joinTunnels_73 : decode cX0_joinTunnels 73 = .ok (.invokevirtual 113, 3) := by decide +kernel
theorem dX0_joinTunnels_76 : decode cX0_joinTunnels 76 = .ok (.iinc 4 1, 3) := by decide +kernel
theorem dX0_joinTunnels_79 : decode cX0_joinTunnels 79 = .ok (.goto (-69), 3) := by decide +kernel
theorem dX0_joinTunnels_82 : decode cX0_joinTunnels 82 = .ok (.aload_n 0, 1) := by decide +kernel
theorem dX0_joinTunnels_83 : decode cX0_joinTunnels 83 = .ok (.getfield 28, 3) := by decide +kernel
theorem dX0_joinTunnels_86 : decode cX0_joinTunnels 86 = .ok (.aload_n 0, 1) := by decide +kernel
theorem dX0_joinTunnels_87 : decode cX0_joinTunnels 87 = .ok (.getfield 42, 3) := by decide +kernel
theorem dX0_joinTunnels_90 : decode cX0_joinTunnels 90 = .ok (.invokevirtual 52, 3) := by decide +kernel
theorem dX0_joinTunnels_93 : decode cX0_joinTunnels 93 = .ok (.return_, 1) := by decide +kernel
theorem lg_wsX0_putJoined_0 : GoodIn wsX0_putJoined wsX0_putJoined_r1 := goodIn_sub (fun _ h => (List.mem_cons_of_mem _ (List.mem_append_left _ (List.mem_append_left _ (List.mem_append_left _ h))))) (by decide +kernel)
theorem lg_wsX0_putJoined_1 : GoodIn wsX0_putJoined wsX0_putJoined_r2 := goodIn_sub (fun _ h => (List.mem_cons_of_mem _ (List.mem_append_left _ (List.mem_append_left _ (List.mem_append_right _ h))))) (by decide +kernel)
theorem ls_wsX0_putJoined_0 : GoodIn wsX0_putJoined wsX00 := goodIn_sub (fun _ h => (List.mem_cons_of_mem _ (List.mem_append_left _ (List.mem_append_right _ h)))) (by decide +kernel)
theorem ls_wsX0_putJoined_1 : GoodIn wsX0_putJoined wsX30 := goodIn_sub (fun _ h => (List.mem_cons_of_mem _ (List.mem_append_right _ h))) (by decide +kernel)
set_option maxRecDepth 20000 in
theorem ggX0_putJoined_X3_number : GoodIn wsX0_putJoined wsX3_number := (gi_cons (lg_wsX0_putJoined_0 _ (List.mem_of_getElem? (i := 6) rfl)) (goodIn_app (gi_cons (lg_wsX0_putJoined_0 _ (List.mem_of_getElem? (i := 7) rfl)) (gi_cons (lg_wsX0_putJoined_0 _ (List.mem_of_getElem? (i := 8) rfl)) (gi_cons (lg_wsX0_putJoined_0 _ (List.mem_of_getElem? (i := 9) rfl)) (gi_cons (lg_wsX0_putJoined_0 _ (List.mem_of_getElem? (i := 5) rfl)) (gi_cons (lg_wsX0_putJoined_0 _ (List.mem_of_getElem? (i := 10) rfl)) (gi_cons (lg_wsX0_putJoined_0 _ (List.mem_of_getElem? (i := 11) rfl)) (gi_cons (lg_wsX0_putJoined_0 _ (List.mem_of_getElem? (i := 12) rfl)) (gi_cons (lg_wsX0_putJoined_0 _ (List.mem_of_getElem? (i := 13) rfl)) (gi_cons (lg_wsX0_putJoined_0 _ (List.mem_of_getElem? (i := 14) rfl)) (gi_cons (lg_wsX0_putJoined_0 _ (List.mem_of_getElem? (i := 15) rfl)) (gi_cons (lg_wsX0_putJoined_0 _ (List.mem_of_getElem? (i := 16) rfl)) (gi_cons (lg_wsX0_putJoined_0 _ (List.mem_of_getElem? (i := 17) rfl)) (gi_cons (lg_wsX0_putJoined_0 _ (List.mem_of_getElem? (i := 18) rfl)) (gi_cons (lg_wsX0_putJoined_0 _ (List.mem_of_getElem? (i := 19) rfl)) (gi_cons (lg_wsX0_putJoined_0 _ (List.mem_of_getElem? (i := 20) rfl)) (gi_cons (lg_wsX0_putJoined_0 _ (List.mem_of_getElem? (i := 21) rfl)) (gi_cons (lg_wsX0_putJoined_0 _ (List.mem_of_getElem? (i := 22) rfl)) (gi_cons (lg_wsX0_putJoined_0 _ (List.mem_of_getElem? (i := 23) rfl)) (gi_cons (lg_wsX0_putJoined_1 _ (List.mem_of_getElem? (i := 0) rfl)) (gi_cons (lg_wsX0_putJoined_1 _ (List.mem_of_getElem? (i := 1) rfl)) (gi_cons (lg_wsX0_putJoined_1 _ (List.mem_of_getElem? (i := 2) rfl)) (gi_cons (lg_wsX0_putJoined_1 _ (List.mem_of_getElem? (i := 3) rfl)) (gi_cons (lg_wsX0_putJoined_1 _ (List.mem_of_getElem? (i := 4) rfl)) (gi_cons (lg_wsX0_putJoined_1 _ (List.mem_of_getElem? (i := 5) rfl)) gi_nil)))))))))))))))))))))))) ls_wsX0_putJoined_1))
set_option maxRecDepth 20000 in
theorem gX0_putJoined_X3_number : GoodIn wsX0_putJoined (wsV RX0 185 RX3 yX3_number wsX3_number) := goodIn_app (gi_cons (lg_wsX0_putJoined_0 _ (List.mem_of_getElem? (i := 2) rfl)) (gi_cons (lg_wsX0_putJoined_0 _ (List.mem_of_getElem? (i := 3) rfl)) (gi_cons (lg_wsX0_putJoined_0 _ (List.mem_of_getElem? (i := 4) rfl)) (gi_cons (lg_wsX0_putJoined_0 _ (List.mem_of_getElem? (i := 5) rfl)) gi_nil)))) ggX0_putJoined_X3_number
set_option maxRecDepth 20000 in
theorem ggX0_putJoined_X3_last : GoodIn wsX0_putJoined wsX3_last := (gi_cons (lg_wsX0_putJoined_1 _ (List.mem_of_getElem? (i := 5) rfl)) (goodIn_app (gi_cons (lg_wsX0_putJoined_0 _ (List.mem_of_getElem? (i := 16) rfl)) (gi_cons (lg_wsX0_putJoined_0 _ (List.mem_of_getElem? (i := 17) rfl)) (gi_cons (lg_wsX0_putJoined_0 _ (List.mem_of_getElem? (i := 18) rfl)) (gi_cons (lg_wsX0_putJoined_0 _ (List.mem_of_getElem? (i := 5) rfl)) (gi_cons (lg_wsX0_putJoined_0 _ (List.mem_of_getElem? (i := 19) rfl)) (gi_cons (lg_wsX0_putJoined_0 _ (List.mem_of_getElem? (i := 20) rfl)) (gi_cons (lg_wsX0_putJoined_0 _ (List.mem_of_getElem? (i := 21) rfl)) (gi_cons (lg_wsX0_putJoined_0 _ (List.mem_of_getElem? (i := 22) rfl)) (gi_cons (lg_wsX0_putJoined_0 _ (List.mem_of_getElem? (i := 23) rfl)) (gi_cons (lg_wsX0_putJoined_1 _ (List.mem_of_getElem? (i := 0) rfl)) (gi_cons (lg_wsX0_putJoined_1 _ (List.mem_of_getElem? (i := 1) rfl)) (gi_cons (lg_wsX0_putJoined_0 _ (List.mem_of_getElem? (i := 11) rfl)) (gi_cons (lg_wsX0_putJoined_0 _ (List.mem_of_getElem? (i := 12) rfl)) (gi_cons (lg_wsX0_putJoined_0 _ (List.mem_of_getElem? (i := 13) rfl)) (gi_cons (lg_wsX0_putJoined_0 _ (List.mem_of_getElem? (i := 14) rfl)) (gi_cons (lg_wsX0_putJoined_0 _ (List.mem_of_getElem? (i := 15) rfl)) gi_nil)))))))))))))))) ls_wsX0_putJoined_1))
set_option maxRecDepth 20000 in
theorem gX0_putJoined_X3_last : GoodIn wsX0_putJoined (wsV RX0 188 RX3 yX3_last wsX3_last) := goodIn_app (gi_cons (lg_wsX0_putJoined_1 _ (List.mem_of_getElem? (i := 6) rfl)) (gi_cons (lg_wsX0_putJoined_1 _ (List.mem_of_getElem? (i := 3) rfl)) (gi_cons (lg_wsX0_putJoined_1 _ (List.mem_of_getElem? (i := 4) rfl)) (gi_cons (lg_wsX0_putJoined_0 _ (List.mem_of_getElem? (i := 5) rfl)) gi_nil)))) ggX0_putJoined_X3_last
set_option maxRecDepth 20000 in
theorem ggX0_putJoined_X3_at : GoodIn wsX0_putJoined wsX3_at := (gi_cons (lg_wsX0_putJoined_0 _ (List.mem_of_getElem? (i := 14) rfl)) (goodIn_app (gi_cons (lg_wsX0_putJoined_0 _ (List.mem_of_getElem? (i := 15) rfl)) (gi_cons (lg_wsX0_putJoined_0 _ (List.mem_of_getElem? (i := 16) rfl)) (gi_cons (lg_wsX0_putJoined_0 _ (List.mem_of_getElem? (i := 17) rfl)) (gi_cons (lg_wsX0_putJoined_0 _ (List.mem_of_getElem? (i := 18) rfl)) (gi_cons (lg_wsX0_putJoined_0 _ (List.mem_of_getElem? (i := 5) rfl)) (gi_cons (lg_wsX0_putJoined_0 _ (List.mem_of_getElem? (i := 19) rfl)) (gi_cons (lg_wsX0_putJoined_0 _ (List.mem_of_getElem? (i := 20) rfl)) (gi_cons (lg_wsX0_putJoined_0 _ (List.mem_of_getElem? (i := 21) rfl)) (gi_cons (lg_wsX0_putJoined_0 _ (List.mem_of_getElem? (i := 22) rfl)) (gi_cons (lg_wsX0_putJoined_0 _ (List.mem_of_getElem? (i := 23) rfl)) (gi_cons (lg_wsX0_putJoined_1 _ (List.mem_of_getElem? (i := 0) rfl)) (gi_cons (lg_wsX0_putJoined_1 _ (List.mem_of_getElem? (i := 1) rfl)) gi_nil)))))))))))) ls_wsX0_putJoined_1))
set_option maxRecDepth 20000 in
theorem gX0_putJoined_X3_at : GoodIn wsX0_putJoined (wsV RX0 191 RX3 yX3_at wsX3_at) := goodIn_app (gi_cons (lg_wsX0_putJoined_1 _ (List.mem_of_getElem? (i := 7) rfl)) (gi_cons (lg_wsX0_putJoined_0 _ (List.mem_of_getElem? (i := 12) rfl)) (gi_cons (lg_wsX0_putJoined_0 _ (List.mem_of_getElem? (i := 13) rfl)) (gi_cons (lg_wsX0_putJoined_0 _ (List.mem_of_getElem? (i := 5) rfl)) gi_nil)))) ggX0_putJoined_X3_at
set_option maxRecDepth 20000 in
theorem ggX0_putJoined_X3_put : GoodIn wsX0_putJoined wsX3_put := (gi_cons (lg_wsX0_putJoined_1 _ (List.mem_of_getElem? (i := 11) rfl)) (goodIn_app (gi_cons (lg_wsX0_putJoined_1 _ (List.mem_of_getElem? (i := 12) rfl)) (gi_cons (lg_wsX0_putJoined_0 _ (List.mem_of_getElem? (i := 15) rfl)) gi_nil)) ls_wsX0_putJoined_1))
set_option maxRecDepth 20000 in
theorem gX0_putJoined_X3_put : GoodIn wsX0_putJoined (wsV RX0 194 RX3 yX3_put wsX3_put) := goodIn_app (gi_cons (lg_wsX0_putJoined_1 _ (List.mem_of_getElem? (i := 8) rfl)) (gi_cons (lg_wsX0_putJoined_1 _ (List.mem_of_getElem? (i := 9) rfl)) (gi_cons (lg_wsX0_putJoined_1 _ (List.mem_of_getElem? (i := 10) rfl)) (gi_cons (lg_wsX0_putJoined_0 _ (List.mem_of_getElem? (i := 5) rfl)) gi_nil)))) ggX0_putJoined_X3_put
set_option maxRecDepth 20000 in
theorem ggX0_putJoined_X3_first : GoodIn wsX0_putJoined wsX3_first := (gi_cons (lg_wsX0_putJoined_0 _ (List.mem_of_getElem? (i := 10) rfl)) (goodIn_app (gi_cons (lg_wsX0_putJoined_0 _ (List.mem_of_getElem? (i := 11) rfl)) (gi_cons (lg_wsX0_putJoined_0 _ (List.mem_of_getElem? (i := 12) rfl)) (gi_cons (lg_wsX0_putJoined_0 _ (List.mem_of_getElem? (i := 13) rfl)) (gi_cons (lg_wsX0_putJoined_0 _ (List.mem_of_getElem? (i := 5) rfl)) (gi_cons (lg_wsX0_putJoined_0 _ (List.mem_of_getElem? (i := 14) rfl)) (gi_cons (lg_wsX0_putJoined_0 _ (List.mem_of_getElem? (i := 15) rfl)) (gi_cons (lg_wsX0_putJoined_0 _ (List.mem_of_getElem? (i := 16) rfl)) (gi_cons (lg_wsX0_putJoined_0 _ (List.mem_of_getElem? (i := 17) rfl)) (gi_cons (lg_wsX0_putJoined_0 _ (List.mem_of_getElem? (i := 18) rfl)) (gi_cons (lg_wsX0_putJoined_0 _ (List.mem_of_getElem? (i := 19) rfl)) (gi_cons (lg_wsX0_putJoined_0 _ (List.mem_of_getElem? (i := 20) rfl)) (gi_cons (lg_wsX0_putJoined_0 _ (List.mem_of_getElem? (i := 21) rfl)) (gi_cons (lg_wsX0_putJoined_0 _ (List.mem_of_getElem? (i := 22) rfl)) (gi_cons (lg_wsX0_putJoined_0 _ (List.mem_of_getElem? (i := 23) rfl)) (gi_cons (lg_wsX0_putJoined_1 _ (List.mem_of_getElem? (i := 0) rfl)) (gi_cons (lg_wsX0_putJoined_1 _ (List.mem_of_getElem? (i := 1) rfl)) gi_nil)))))))))))))))) ls_wsX0_putJoined_1))
set_option maxRecDepth 20000 in
theorem gX0_putJoined_X3_first : GoodIn wsX0_putJoined (wsV RX0 197 RX3 yX3_first wsX3_first) := goodIn_app (gi_cons (lg_wsX0_putJoined_1 _ (List.mem_of_getElem? (i := 13) rfl)) (gi_cons (lg_wsX0_putJoined_0 _ (List.mem_of_getElem? (i := 8) rfl)) (gi_cons (lg_wsX0_putJoined_0 _ (List.mem_of_getElem? (i := 9) rfl)) (gi_cons (lg_wsX0_putJoined_0 _ (List.mem_of_getElem? (i := 5) rfl)) gi_nil)))) ggX0_putJoined_X3_first
set_option maxRecDepth 20000 in
theorem ggX0_putJoined_X3_close : GoodIn wsX0_putJoined wsX3_close := (gi_cons (lg_wsX0_putJoined_1 _ (List.mem_of_getElem? (i := 17) rfl)) (goodIn_app (gi_cons (lg_wsX0_putJoined_0 _ (List.mem_of_getElem? (i := 20) rfl)) (gi_cons (lg_wsX0_putJoined_0 _ (List.mem_of_getElem? (i := 21) rfl)) (gi_cons (lg_wsX0_putJoined_1 _ (List.mem_of_getElem? (i := 12) rfl)) gi_nil))) ls_wsX0_putJoined_1))
set_option maxRecDepth 20000 in
theorem gX0_putJoined_X3_close : GoodIn wsX0_putJoined (wsV RX0 200 RX3 yX3_close wsX3_close) := goodIn_app (gi_cons (lg_wsX0_putJoined_1 _ (List.mem_of_getElem? (i := 14) rfl)) (gi_cons (lg_wsX0_putJoined_1 _ (List.mem_of_getElem? (i := 15) rfl)) (gi_cons (lg_wsX0_putJoined_1 _ (List.mem_of_getElem? (i := 16) rfl)) (gi_cons (lg_wsX0_putJoined_0 _ (List.mem_of_getElem? (i := 5) rfl)) gi_nil)))) ggX0_putJoined_X3_close
theorem dX0_putJoined_0 : decode cX0_putJoined 0 = .ok (.aload_n 0, 1) := by decide +kernel
theorem dX0_putJoined_1 : decode cX0_putJoined 1 = .ok (.getfield 28, 3) := by decide +kernel
theorem dX0_putJoined_4 : decode cX0_putJoined 4 = .ok (.iload_n 1, 1) := by decide +kernel
theorem dX0_putJoined_5 : decode cX0_putJoined 5 = .ok (.iconst 2, 1) := by decide +kernel
theorem dX0_putJoined_6 : decode cX0_putJoined 6 = .ok (.invokevirtual 185, 3) := by decide +kernel
theorem dX0_putJoined_9 : decode cX0_putJoined 9 = .ok (.istore 4, 2) := by decide +kernel
theorem dX0_putJoined_11 : decode cX0_putJoined 11 = .ok (.aload_n 0, 1) := by decide +kernel
theorem dX0_putJoined_12 : decode cX0_putJoined 12 = .ok (.getfield 28, 3) := by decide +kernel
theorem dX0_putJoined_15 : decode cX0_putJoined 15 = .ok (.iload_n 1, 1) := by decide +kernel
theorem dX0_putJoined_16 : decode cX0_putJoined 16 = .ok (.invokevirtual 188, 3) := by decide +kernel
theorem dX0_putJoined_19 : decode cX0_putJoined 19 = .ok (.iload_n 3, 1) := by decide +kernel
theorem dX0_putJoined_20 : decode cX0_putJoined 20 = .ok (.if_icmp .ne 7, 3) := by decide +kernel
theorem dX0_putJoined_23 : decode cX0_putJoined 23 = .ok (.iconst 1, 1) := by decide +kernel
theorem dX0_putJoined_24 : decode cX0_putJoined 24 = .ok (.goto 4, 3) := by decide +kernel
theorem dX0_putJoined_27 : decode cX0_putJoined 27 = .ok (.iconst 0, 1) := by decide +kernel
theorem dX0_putJoined_28 : decode cX0_putJoined 28 = .ok (.istore 5, 2) := by decide +kernel
theorem dX0_putJoined_30 : decode cX0_putJoined 30 = .ok (.iconst 0, 1) := by decide +kernel
theorem dX0_putJoined_31 : decode cX0_putJoined 31 = .ok (.istore 6, 2) := by decide +kernel
theorem dX0_putJoined_33 : decode cX0_putJoined 33 = .ok (.iload 6, 2) := by decide +kernel
theorem dX0_putJoined_35 : decode cX0_putJoined 35 = .ok (.iload 4, 2) := by decide +kernel
theorem dX0_putJoined_37 : decode cX0_putJoined 37 = .ok (.if_icmp .ge 41, 3) := by decide +kernel
theorem dX0_putJoined_40 : decode cX0_putJoined 40 = .ok (.aload_n 0, 1) := by decide +kernel
theorem dX0_putJoined_41 : decode cX0_putJoined 41 = .ok (.getfield 42, 3) := by decide +kernel
theorem dX0_putJoined_44 : decode cX0_putJoined 44 = .ok (.aload_n 0, 1) := by decide +kernel
theorem dX0_putJoined_45 : decode cX0_putJoined 45 = .ok (.getfield 28, 3) := by decide +kernel
theorem dX0_putJoined_48 : decode cX0_putJoined 48 = .ok (.iload_n 1, 1) := by decide +kernel
theorem dX0_putJoined_49 : decode cX0_putJoined 49 = .ok (.iload 5, 2) := by decide +kernel
theorem dX0_putJoined_51 : decode cX0_putJoined 51 = .ok (.ifCond .eq 8, 3) := by decide +kernel
theorem dX0_putJoined_54 : decode cX0_putJoined 54 = .ok (.iload 6, 2) := by decide +kernel
theorem dX0_putJoined_56 : decode cX0_putJoined 56 = .ok (.goto 10, 3) := by decide +kernel
theorem dX0_putJoined_59 : decode cX0_putJoined 59 = .ok (.iload 4, 2) := by decide +kernel
theorem dX0_putJoined_61 : decode cX0_putJoined 61 = .ok (.iconst 1, 1) := by decide +kernel
theorem dX0_putJoined_62 : decode cX0_putJoined 62 = .ok (.isub, 1) := by decide +kernel
theorem dX0_putJoined_63 : decode cX0_putJoined 63 = .ok (.iload 6, 2) := by decide +kernel
theorem dX0_putJoined_65 : decode cX0_putJoined 65 = .ok (.isub, 1) := by decide +kernel
theorem dX0_putJoined_66 : decode cX0_putJoined 66 = .ok (.invokevirtual 191, 3) := by decide +kernel
theorem dX0_putJoined_69 : decode cX0_putJoined 69 = .ok (.invokevirtual 194, 3) := by decide +kernel
theorem dX0_putJoined_72 : decode cX0_putJoined 72 = .ok (.iinc 6 1, 3) := by decide +kernel
theorem dX0_putJoined_75 : decode cX0_putJoined 75 = .ok (.goto (-42), 3) := by decide +kernel
theorem dX0_putJoined_78 : decode cX0_putJoined 78 = .ok (.aload_n 0, 1) := by decide +kernel
theorem dX0_putJoined_79 : decode cX0_putJoined 79 = .ok (.getfield 28, 3) := by decide +kernel
theorem dX0_putJoined_82 : decode cX0_putJoined 82 = .ok (.iload_n 2, 1) := by decide +kernel
theorem dX0_putJoined_83 : decode cX0_putJoined 83 = .ok (.iconst 2, 1) := by decide +kernel
theorem dX0_putJoined_84 : decode cX0_putJoined 84 = .ok (.invokevirtual 185, 3) := by decide +kernel
theorem dX0_putJoined_87 : decode cX0_putJoined 87 = .ok (.istore 4, 2) := by decide +kernel
theorem dX0_putJoined_89 : decode cX0_putJoined 89 = .ok (.aload_n 0, 1) := by decide +kernel
theorem dX0_putJoined_90 : decode cX0_putJoined 90 = .ok (.getfield 28, 3) := by decide +kernel
theorem dX0_putJoined_93 : decode cX0_putJoined 93 = .ok (.iload_n 2, 1) := by decide +kernel
theorem dX0_putJoined_94 : decode cX0_putJoined 94 = .ok (.invokevirtual 197, 3) := by decide +kernel
theorem dX0_putJoined_97 : decode cX0_putJoined 97 = .ok (.iload_n 3, 1) := by decide +kernel
theorem dX0_putJoined_98 : decode cX0_putJoined 98 = .ok (.if_icmp .ne 7, 3) := by decide +kernel
theorem dX0_putJoined_101 : decode cX0_putJoined 101 = .ok (.iconst 1, 1) := by decide +kernel
theorem dX0_putJoined_102 : decode cX0_putJoined 102 = .ok (.goto 4, 3) := by decide +kernel
theorem dX0_putJoined_105 : decode cX0_putJoined 105 = .ok (.iconst 0, 1) := by decide +kernel
theorem dX0_putJoined_106 : decode cX0_putJoined 106 = .ok (.istore 5, 2) := by decide +kernel
theorem dX0_putJoined_108 : decode cX0_putJoined 108 = .ok (.iconst 1, 1) := by decide +kernel
theorem dX0_putJoined_109 : decode cX0_putJoined 109 = .ok (.istore 6, 2) := by decide +kernel
theorem dX0_putJoined_111 : decode cX0_putJoined 111 = .ok (.iload 6, 2) := by decide +kernel
theorem dX0_putJoined_113 : decode cX0_putJoined 113 = .ok (.iload 4, 2) := by decide +kernel
theorem dX0_putJoined_115 : decode cX0_putJoined 115 = .ok (.if_icmp .ge 41, 3) := by decide +kernel
theorem dX0_putJoined_118 : decode cX0_putJoined 118 = .ok (.aload_n 0, 1) := by decide +kernel
theorem dX0_putJoined_119 : decode cX0_putJoined 119 = .ok (.getfield 42, 3) := by decide +kernel
theorem dX0_putJoined_122 : decode cX0_putJoined 122 = .ok (.aload_n 0, 1) := by decide +kernel
theorem dX0_putJoined_123 : decode cX0_putJoined 123 = .ok (.getfield 28, 3) := by decide +kernel
theorem dX0_putJoined_126 : decode cX0_putJoined 126 = .ok (.iload_n 2, 1) := by decide +kernel
theorem dX0_putJoined_127 : decode cX0_putJoined 127 = .ok (.iload 5, 2) := by decide +kernel
theorem dX0_putJoined_129 : decode cX0_putJoined 129 = .ok (.ifCond .eq 8, 3) := by decide +kernel
theorem dX0_putJoined_132 : decode cX0_putJoined 132 = .ok (.iload 6, 2) := by decide +kernel
theorem dX0_putJoined_134 : decode cX0_putJoined 134 = .ok (.goto 10, 3) := by decide +kernel
theorem dX0_putJoined_137 : decode cX0_putJoined 137 = .ok (.iload 4, 2) := by decide +kernel
theorem dX0_putJoined_139 : decode cX0_putJoined 139 = .ok (.iconst 1, 1) := by decide +kernel
theorem dX0_putJoined_140 : decode cX0_putJoined 140 = .ok (.isub, 1) := by decide +kernel
theorem dX0_putJoined_141 : decode cX0_putJoined 141 = .ok (.iload 6, 2) := by decide +kernel
theorem dX0_putJoined_143 : decode cX0_putJoined 143 = .ok (.isub, 1) := by decide +kernel
theorem dX0_putJoined_144 : decode cX0_putJoined 144 = .ok (.invokevirtual 191, 3) := by decide +kernel
theorem dX0_putJoined_147 : decode cX0_putJoined 147 = .ok (.invokevirtual 194, 3) := by decide +kernel
theorem dX0_putJoined_150 : decode cX0_putJoined 150 = .ok (.iinc 6 1, 3) := by decide +kernel
theorem dX0_putJoined_153 : decode cX0_putJoined 153 = .ok (.goto (-42), 3) := by decide +kernel
theorem dX0_putJoined_156 : decode cX0_putJoined 156 = .ok (.aload_n 0, 1) := by decide +kernel
theorem dX0_putJoined_157 : decode cX0_putJoined 157 = .ok (.getfield 42, 3) := by decide +kernel
theorem dX0_putJoined_160 : decode cX0_putJoined 160 = .ok (.invokevirtual 200, 3) := by decide +kernel
theorem dX0_putJoined_163 : decode cX0_putJoined 163 = .ok (.return_, 1) := by decide +kernel
theorem dX1_init_0 : decode cX1_init 0 = .ok (.aload_n 0, 1) := by decide +kernel
theorem dX1_init_1 : decode cX1_init 1 = .ok (.invokespecial 3, 3) := by decide +kernel
theorem dX1_init_4 : decode cX1_init 4 = .ok (.aload_n 0, 1) := by decide +kernel
theorem dX1_init_5 : decode cX1_init 5 = .ok (.bipush 20, 2) := by decide +kernel
theorem dX1_init_7 : decode cX1_init 7 = .ok (.newarray .int, 2) := by decide +kernel
theorem dX1_init_9 : decode cX1_init 9 = .ok (.putfield 9, 3) := by decide +kernel
theorem dX1_init_12 : decode cX1_init 12 = .ok (.aload_n 0, 1) := by decide +kernel
theorem dX1_init_13 : decode cX1_init 13 = .ok (.bipush 21, 2) := by decide +kernel
theorem dX1_init_15 : decode cX1_init 15 = .ok (.newarray .int, 2) := by decide +kernel
theorem dX1_init_17 : decode cX1_init 17 = .ok (.putfield 15, 3) := by decide +kernel
theorem dX1_init_20 : decode cX1_init 20 = .ok (.aload_n 0, 1) := by decide +kernel
theorem dX1_init_21 : decode cX1_init 21 = .ok (.iconst 1, 1) := by decide +kernel
theorem dX1_init_22 : decode cX1_init 22 = .ok (.putfield 18, 3) := by decide +kernel
theorem dX1_init_25 : decode cX1_init 25 = .ok (.return_, 1) := by decide +kernel
theorem dX1_copyFrom_0 : decode cX1_copyFrom 0 = .ok (.aload_n 0, 1) := by decide +kernel
theorem dX1_copyFrom_1 : decode cX1_copyFrom 1 = .ok (.aload_n 1, 1) := by decide +kernel
theorem dX1_copyFrom_2 : decode cX1_copyFrom 2 = .ok (.getfield 22, 3) := by decide +kernel
theorem dX1_copyFrom_5 : decode cX1_copyFrom 5 = .ok (.putfield 22, 3) := by decide +kernel
theorem dX1_copyFrom_8 : decode cX1_copyFrom 8 = .ok (.aload_n 0, 1) := by decide +kernel
theorem dX1_copyFrom_9 : decode cX1_copyFrom 9 = .ok (.aload_n 1, 1) := by decide +kernel
theorem dX1_copyFrom_10 : decode cX1_copyFrom 10 = .ok (.getfield 18, 3) := by decide +kernel
theorem dX1_copyFrom_13 : decode cX1_copyFrom 13 = .ok (.putfield 18, 3) := by decide +kernel
theorem dX1_copyFrom_16 : decode cX1_copyFrom 16 = .ok (.aload_n 0, 1) := by decide +kernel
theorem dX1_copyFrom_17 : decode cX1_copyFrom 17 = .ok (.aload_n 1, 1) := by decide +kernel
theorem dX1_copyFrom_18 : decode cX1_copyFrom 18 = .ok (.getfield 25, 3) := by decide +kernel
theorem dX1_copyFrom_21 : decode cX1_copyFrom 21 = .ok (.putfield 25, 3) := by decide +kernel
theorem dX1_copyFrom_24 : decode cX1_copyFrom 24 = .ok (.aload_n 0, 1) := by decide +kernel
theorem dX1_copyFrom_25 : decode cX1_copyFrom 25 = .ok (.aload_n 1, 1) := by decide +kernel
theorem dX1_copyFrom_26 : decode cX1_copyFrom 26 = .ok (.getfield 28, 3) := by decide +kernel
theorem dX1_copyFrom_29 : decode cX1_copyFrom 29 = .ok (.putfield 28, 3) := by decide +kernel
theorem dX1_copyFrom_32 : decode cX1_copyFrom 32 = .ok (.aload_n 1, 1) := by decide +kernel
theorem dX1_copyFrom_33 : decode cX1_copyFrom 33 = .ok (.getfield 9, 3) := by decide +kernel
theorem dX1_copyFrom_36 : decode cX1_copyFrom 36 = .ok (.iconst 0, 1) := by decide +kernel
theorem dX1_copyFrom_37 : decode cX1_copyFrom 37 = .ok (.aload_n 0, 1) := by decide +kernel
theorem dX1_copyFrom_38 : decode cX1_copyFrom 38 = .ok (.getfield 9, 3) := by decide +kernel
theorem dX1_copyFrom_41 : decode cX1_copyFrom 41 = .ok (.iconst 0, 1) := by decide +kernel
theorem dX1_copyFrom_42 : decode cX1_copyFrom 42 = .ok (.aload_n 0, 1) := by decide +kernel
theorem dX1_copyFrom_43 : decode cX1_copyFrom 43 = .ok (.getfield 22, 3) := by decide +kernel
theorem dX1_copyFrom_46 : decode cX1_copyFrom 46 = .ok (.invokestatic 31, 3) := by decide +kernel
theorem dX1_copyFrom_49 : decode cX1_copyFrom 49 = .ok (.aload_n 1, 1) := by decide +kernel
theorem dX1_copyFrom_50 : decode cX1_copyFrom 50 = .ok (.getfield 15, 3) := by decide +kernel
theorem dX1_copyFrom_53 : decode cX1_copyFrom 53 = .ok (.iconst 0, 1) := by decide +kernel
theorem dX1_copyFrom_54 : decode cX1_copyFrom 54 = .ok (.aload_n 0, 1) := by decide +kernel
theorem dX1_copyFrom_55 : decode cX1_copyFrom 55 = .ok (.getfield 15, 3) := by decide +kernel
theorem dX1_copyFrom_58 : decode cX1_copyFrom 58 = .ok (.iconst 0, 1) := by decide +kernel
theorem dX1_copyFrom_59 : decode cX1_copyFrom 59 = .ok (.aload_n 0, 1) := by decide +kernel
theorem dX1_copyFrom_60 : decode cX1_copyFrom 60 = .ok (.getfield 18, 3) := by decide +kernel
theorem dX1_copyFrom_63 : decode cX1_copyFrom 63 = .ok (.invokestatic 31, 3) := by decide +kernel
theorem dX1_copyFrom_66 : decode cX1_copyFrom 66 = .ok (.return_, 1) := by decide +kernel
theorem dX1_place_0 : decode cX1_place 0 = .ok (.aload_n 0, 1) := by decide +kernel
theorem dX1_place_1 : decode cX1_place 1 = .ok (.getfield 15, 3) := by decide +kernel
theorem dX1_place_4 : decode cX1_place 4 = .ok (.aload_n 0, 1) := by decide +kernel
theorem dX1_place_5 : decode cX1_place 5 = .ok (.getfield 18, 3) := by decide +kernel
theorem dX1_place_8 : decode cX1_place 8 = .ok (.iconst 1, 1) := by decide +kernel
theorem dX1_place_9 : decode cX1_place 9 = .ok (.isub, 1) := by decide +kernel
theorem dX1_place_10 : decode cX1_place 10 = .ok (.iaload, 1) := by decide +kernel
theorem dX1_place_11 : decode cX1_place 11 = .ok (.ireturn, 1) := by decide +kernel
