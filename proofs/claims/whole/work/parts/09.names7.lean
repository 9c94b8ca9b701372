set_option maxRecDepth 20000 in
theorem gX7_joins_X7_tuftAt : GoodIn wsX7_joins (wsV RX7 53 RX7 yX7_tuftAt wsX7_tuftAt) := goodIn_app (gi_cons (lg_wsX7_joins_0 _ (List.mem_of_getElem? (i := 7) rfl)) (gi_cons (lg_wsX7_joins_0 _ (List.mem_of_getElem? (i := 8) rfl)) (gi_cons (lg_wsX7_joins_0 _ (List.mem_of_getElem? (i := 9) rfl)) (gi_cons (lg_wsX7_joins_0 _ (List.mem_of_getElem? (i := 5) rfl)) gi_nil)))) ggX7_joins_X7_tuftAt
set_option maxRecDepth 20000 in
theorem ggX7_joins_X7_shifts : GoodIn wsX7_joins wsX7_shifts := (gi_cons (lg_wsX7_joins_0 _ (List.mem_of_getElem? (i := 14) rfl)) (goodIn_app (gi_cons (lg_wsX7_joins_0 _ (List.mem_of_getElem? (i := 1) rfl)) gi_nil) ls_wsX7_joins_0))
set_option maxRecDepth 20000 in
theorem gX7_joins_X7_shifts : GoodIn wsX7_joins (wsV RX7 60 RX7 yX7_shifts wsX7_shifts) := goodIn_app (gi_cons (lg_wsX7_joins_0 _ (List.mem_of_getElem? (i := 11) rfl)) (gi_cons (lg_wsX7_joins_0 _ (List.mem_of_getElem? (i := 12) rfl)) (gi_cons (lg_wsX7_joins_0 _ (List.mem_of_getElem? (i := 13) rfl)) (gi_cons (lg_wsX7_joins_0 _ (List.mem_of_getElem? (i := 5) rfl)) gi_nil)))) ggX7_joins_X7_shifts
theorem dX7_joins_0 : decode cX7_joins 0 = .ok (.aload_n 0, 1) := by decide +kernel
theorem dX7_joins_1 : decode cX7_joins 1 = .ok (.iload_n 1, 1) := by decide +kernel
theorem dX7_joins_2 : decode cX7_joins 2 = .ok (.invokevirtual 49, 3) := by decide +kernel
theorem dX7_joins_5 : decode cX7_joins 5 = .ok (.istore 4, 2) := by decide +kernel
theorem dX7_joins_7 : decode cX7_joins 7 = .ok (.aload_n 0, 1) := by decide +kernel
theorem dX7_joins_8 : decode cX7_joins 8 = .ok (.iload_n 2, 1) := by decide +kernel
theorem dX7_joins_9 : decode cX7_joins 9 = .ok (.invokevirtual 49, 3) := by decide +kernel
theorem dX7_joins_12 : decode cX7_joins 12 = .ok (.istore 5, 2) := by decide +kernel
theorem dX7_joins_14 : decode cX7_joins 14 = .ok (.iconst 0, 1) := by decide +kernel
theorem dX7_joins_15 : decode cX7_joins 15 = .ok (.istore 6, 2) := by decide +kernel
theorem dX7_joins_17 : decode cX7_joins 17 = .ok (.aload_n 0, 1) := by decide +kernel
theorem dX7_joins_18 : decode cX7_joins 18 = .ok (.iload 4, 2) := by decide +kernel
theorem dX7_joins_20 : decode cX7_joins 20 = .ok (.invokevirtual 53, 3) := by decide +kernel
theorem dX7_joins_23 : decode cX7_joins 23 = .ok (.iload_n 3, 1) := by decide +kernel
theorem dX7_joins_24 : decode cX7_joins 24 = .ok (.if_icmp .ne 7, 3) := by decide +kernel
theorem dX7_joins_27 : decode cX7_joins 27 = .ok (.iconst 1, 1) := by decide +kernel
theorem dX7_joins_28 : decode cX7_joins 28 = .ok (.goto 4, 3) := by decide +kernel
theorem dX7_joins_31 : decode cX7_joins 31 = .ok (.iconst 0, 1) := by decide +kernel
theorem dX7_joins_32 : decode cX7_joins 32 = .ok (.istore 7, 2) := by decide +kernel
theorem dX7_joins_34 : decode cX7_joins 34 = .ok (.iconst 0, 1) := by decide +kernel
theorem dX7_joins_35 : decode cX7_joins 35 = .ok (.istore 8, 2) := by decide +kernel
theorem dX7_joins_37 : decode cX7_joins 37 = .ok (.iload 8, 2) := by decide +kernel
theorem dX7_joins_39 : decode cX7_joins 39 = .ok (.iload 4, 2) := by decide +kernel
theorem dX7_joins_41 : decode cX7_joins 41 = .ok (.iload_n 1, 1) := by decide +kernel
theorem dX7_joins_42 : decode cX7_joins 42 = .ok (.isub, 1) := by decide +kernel
theorem dX7_joins_43 : decode cX7_joins 43 = .ok (.if_icmp .gt 40, 3) := by decide +kernel
theorem dX7_joins_46 : decode cX7_joins 46 = .ok (.aload_n 0, 1) := by decide +kernel
theorem dX7_joins_47 : decode cX7_joins 47 = .ok (.getfield 25, 3) := by decide +kernel
theorem dX7_joins_50 : decode cX7_joins 50 = .ok (.iload 6, 2) := by decide +kernel
theorem dX7_joins_52 : decode cX7_joins 52 = .ok (.aload_n 0, 1) := by decide +kernel
theorem dX7_joins_53 : decode cX7_joins 53 = .ok (.iload 7, 2) := by decide +kernel
theorem dX7_joins_55 : decode cX7_joins 55 = .ok (.ifCond .eq 10, 3) := by decide +kernel
theorem dX7_joins_58 : decode cX7_joins 58 = .ok (.iload_n 1, 1) := by decide +kernel
theorem dX7_joins_59 : decode cX7_joins 59 = .ok (.iload 8, 2) := by decide +kernel
theorem dX7_joins_61 : decode cX7_joins 61 = .ok (.iadd, 1) := by decide +kernel
theorem dX7_joins_62 : decode cX7_joins 62 = .ok (.goto 8, 3) := by decide +kernel
theorem dX7_joins_65 : decode cX7_joins 65 = .ok (.iload 4, 2) := by decide +kernel
theorem dX7_joins_67 : decode cX7_joins 67 = .ok (.iload 8, 2) := by decide +kernel
theorem dX7_joins_69 : decode cX7_joins 69 = .ok (.isub, 1) := by decide +kernel
theorem dX7_joins_70 : decode cX7_joins 70 = .ok (.invokevirtual 53, 3) := by decide +kernel
theorem dX7_joins_73 : decode cX7_joins 73 = .ok (.iastore, 1) := by decide +kernel
theorem dX7_joins_74 : decode cX7_joins 74 = .ok (.iinc 6 1, 3) := by decide +kernel
theorem dX7_joins_77 : decode cX7_joins 77 = .ok (.iinc 8 1, 3) := by decide +kernel
theorem dX7_joins_80 : decode cX7_joins 80 = .ok (.goto (-43), 3) := by decide +kernel
theorem dX7_joins_83 : decode cX7_joins 83 = .ok (.aload_n 0, 1) := by decide +kernel
theorem dX7_joins_84 : decode cX7_joins 84 = .ok (.iload_n 2, 1) := by decide +kernel
theorem dX7_joins_85 : decode cX7_joins 85 = .ok (.invokevirtual 53, 3) := by decide +kernel
theorem dX7_joins_88 : decode cX7_joins 88 = .ok (.iload_n 3, 1) := by decide +kernel
theorem dX7_joins_89 : decode cX7_joins 89 = .ok (.if_icmp .ne 7, 3) := by decide +kernel
theorem dX7_joins_92 : decode cX7_joins 92 = .ok (.iconst 1, 1) := by decide +kernel
theorem dX7_joins_93 : decode cX7_joins 93 = .ok (.goto 4, 3) := by decide +kernel
theorem dX7_joins_96 : decode cX7_joins 96 = .ok (.iconst 0, 1) := by decide +kernel
theorem dX7_joins_97 : decode cX7_joins 97 = .ok (.istore 7, 2) := by decide +kernel
theorem dX7_joins_99 : decode cX7_joins 99 = .ok (.iconst 1, 1) := by decide +kernel
theorem dX7_joins_100 : decode cX7_joins 100 = .ok (.istore 8, 2) := by decide +kernel
theorem dX7_joins_102 : decode cX7_joins 102 = .ok (.iload 8, 2) := by decide +kernel
theorem dX7_joins_104 : decode cX7_joins 104 = .ok (.iload 5, 2) := by decide +kernel
theorem dX7_joins_106 : decode cX7_joins 106 = .ok (.iload_n 2, 1) := by decide +kernel
theorem dX7_joins_107 : decode cX7_joins 107 = .ok (.isub, 1) := by decide +kernel
theorem dX7_joins_108 : decode cX7_joins 108 = .ok (.if_icmp .gt 40, 3) := by decide +kernel
theorem dX7_joins_111 : decode cX7_joins 111 = .ok (.aload_n 0, 1) := by decide +kernel
theorem dX7_joins_112 : decode cX7_joins 112 = .ok (.getfield 25, 3) := by decide +kernel
theorem dX7_joins_115 : decode cX7_joins 115 = .ok (.iload 6, 2) := by decide +kernel
theorem dX7_joins_117 : decode cX7_joins 117 = .ok (.aload_n 0, 1) := by decide +kernel
theorem dX7_joins_118 : decode cX7_joins 118 = .ok (.iload 7, 2) := by decide +kernel
theorem dX7_joins_120 : decode cX7_joins 120 = .ok (.ifCond .eq 10, 3) := by decide +kernel
theorem dX7_joins_123 : decode cX7_joins 123 = .ok (.iload_n 2, 1) := by decide +kernel
theorem dX7_joins_124 : decode cX7_joins 124 = .ok (.iload 8, 2) := by decide +kernel
theorem dX7_joins_126 : decode cX7_joins 126 = .ok (.iadd, 1) := by decide +kernel
theorem dX7_joins_127 : decode cX7_joins 127 = .ok (.goto 8, 3) := by decide +kernel
theorem dX7_joins_130 : decode cX7_joins 130 = .ok (.iload 5, 2) := by decide +kernel
theorem dX7_joins_132 : decode cX7_joins 132 = .ok (.iload 8, 2) := by decide +kernel
theorem dX7_joins_134 : decode cX7_joins 134 = .ok (.isub, 1) := by decide +kernel
theorem dX7_joins_135 : decode cX7_joins 135 = .ok (.invokevirtual 53, 3) := by decide +kernel
theorem dX7_joins_138 : decode cX7_joins 138 = .ok (.iastore, 1) := by decide +kernel
theorem dX7_joins_139 : decode cX7_joins 139 = .ok (.iinc 6 1, 3) := by decide +kernel
theorem dX7_joins_142 : decode cX7_joins 142 = .ok (.iinc 8 1, 3) := by decide +kernel
theorem dX7_joins_145 : decode cX7_joins 145 = .ok (.goto (-43), 3) := by decide +kernel
theorem dX7_joins_148 : decode cX7_joins 148 = .ok (.aload_n 0, 1) := by decide +kernel
theorem dX7_joins_149 : decode cX7_joins 149 = .ok (.iload 5, 2) := by decide +kernel
theorem dX7_joins_151 : decode cX7_joins 151 = .ok (.iconst 1, 1) := by decide +kernel
theorem dX7_joins_152 : decode cX7_joins 152 = .ok (.iadd, 1) := by decide +kernel
theorem dX7_joins_153 : decode cX7_joins 153 = .ok (.iload_n 2, 1) := by decide +kernel
theorem dX7_joins_154 : decode cX7_joins 154 = .ok (.iload 5, 2) := by decide +kernel
theorem dX7_joins_156 : decode cX7_joins 156 = .ok (.isub, 1) := by decide +kernel
theorem dX7_joins_157 : decode cX7_joins 157 = .ok (.iconst 1, 1) := by decide +kernel
theorem dX7_joins_158 : decode cX7_joins 158 = .ok (.isub, 1) := by decide +kernel
theorem dX7_joins_159 : decode cX7_joins 159 = .ok (.invokevirtual 60, 3) := by decide +kernel
theorem dX7_joins_162 : decode cX7_joins 162 = .ok (.aload_n 0, 1) := by decide +kernel
theorem dX7_joins_163 : decode cX7_joins 163 = .ok (.iload 4, 2) := by decide +kernel
theorem dX7_joins_165 : decode cX7_joins 165 = .ok (.iconst 1, 1) := by decide +kernel
theorem dX7_joins_166 : decode cX7_joins 166 = .ok (.iadd, 1) := by decide +kernel
theorem dX7_joins_167 : decode cX7_joins 167 = .ok (.iload 6, 2) := by decide +kernel
theorem dX7_joins_169 : decode cX7_joins 169 = .ok (.iload 4, 2) := by decide +kernel
theorem dX7_joins_171 : decode cX7_joins 171 = .ok (.iload_n 1, 1) := by decide +kernel
theorem dX7_joins_172 : decode cX7_joins 172 = .ok (.isub, 1) := by decide +kernel
theorem dX7_joins_173 : decode cX7_joins 173 = .ok (.iconst 1, 1) := by decide +kernel
theorem dX7_joins_174 : decode cX7_joins 174 = .ok (.iadd, 1) := by decide +kernel
theorem dX7_joins_175 : decode cX7_joins 175 = .ok (.isub, 1) := by decide +kernel
theorem dX7_joins_176 : decode cX7_joins 176 = .ok (.invokevirtual 60, 3) := by decide +kernel
theorem dX7_joins_179 : decode cX7_joins 179 = .ok (.iconst 0, 1) := by decide +kernel
theorem dX7_joins_180 : decode cX7_joins 180 = .ok (.istore 8, 2) := by decide +kernel
theorem dX7_joins_182 : decode cX7_joins 182 = .ok (.iload 8, 2) := by decide +kernel
theorem dX7_joins_184 : decode cX7_joins 184 = .ok (.iload 6, 2) := by decide +kernel
theorem dX7_joins_186 : decode cX7_joins 186 = .ok (.if_icmp .ge 45, 3) := by decide +kernel
theorem dX7_joins_189 : decode cX7_joins 189 = .ok (.aload_n 0, 1) := by decide +kernel
theorem dX7_joins_190 : decode cX7_joins 190 = .ok (.getfield 7, 3) := by decide +kernel
theorem dX7_joins_193 : decode cX7_joins 193 = .ok (.sipush 448, 3) := by decide +kernel
theorem dX7_joins_196 : decode cX7_joins 196 = .ok (.iload_n 1, 1) := by decide +kernel
theorem dX7_joins_197 : decode cX7_joins 197 = .ok (.iadd, 1) := by decide +kernel
theorem dX7_joins_198 : decode cX7_joins 198 = .ok (.iload 8, 2) := by decide +kernel
theorem dX7_joins_200 : decode cX7_joins 200 = .ok (.iadd, 1) := by decide +kernel
theorem dX7_joins_201 : decode cX7_joins 201 = .ok (.aload_n 0, 1) := by decide +kernel
theorem dX7_joins_202 : decode cX7_joins 202 = .ok (.getfield 25, 3) := by decide +kernel
theorem dX7_joins_205 : decode cX7_joins 205 = .ok (.iload 8, 2) := by decide +kernel
theorem dX7_joins_207 : decode cX7_joins 207 = .ok (.iaload, 1) := by decide +kernel
theorem dX7_joins_208 : decode cX7_joins 208 = .ok (.iload 8, 2) := by decide +kernel
theorem dX7_joins_210 : decode cX7_joins 210 = .ok (.iload 6, 2) := by decide +kernel
theorem dX7_joins_212 : decode cX7_joins 212 = .ok (.iconst 1, 1) := by decide +kernel
theorem dX7_joins_213 : decode cX7_joins 213 = .ok (.isub, 1) := by decide +kernel
theorem dX7_joins_214 : decode cX7_joins 214 = .ok (.if_icmp .ne 8, 3) := by decide +kernel
theorem dX7_joins_217 : decode cX7_joins 217 = .ok (.bipush 64, 2) := by decide +kernel
theorem dX7_joins_219 : decode cX7_joins 219 = .ok (.goto 4, 3) := by decide +kernel
theorem dX7_joins_222 : decode cX7_joins 222 = .ok (.iconst 0, 1) := by decide +kernel
theorem dX7_joins_223 : decode cX7_joins 223 = .ok (.iadd, 1) := by decide +kernel
theorem dX7_joins_224 : decode cX7_joins 224 = .ok (.iastore, 1) := by decide +kernel
theorem dX7_joins_225 : decode cX7_joins 225 = .ok (.iinc 8 1, 3) := by decide +kernel
theorem dX7_joins_228 : decode cX7_joins 228 = .ok (.goto (-46), 3) := by decide +kernel
theorem dX7_joins_231 : decode cX7_joins 231 = .ok (.return_, 1) := by decide +kernel
theorem lg_wsX7_beginsTrailAt_0 : GoodIn wsX7_beginsTrailAt ([.fieldLink RX7 7 "MolesLawnModel" "s" "[I", .methodLink RX7 64 yX7_of, .static yX7_of, .initialized RX7, .code yX7_of cX7_of 2 (some .int)] : List Cond) := goodIn_sub (fun _ h => (List.mem_cons_of_mem _ (List.mem_append_left _ h))) (by decide +kernel)
theorem ls_wsX7_beginsTrailAt_0 : GoodIn wsX7_beginsTrailAt wsX70 := goodIn_sub (fun _ h => (List.mem_cons_of_mem _ (List.mem_append_right _ h))) (by decide +kernel)
set_option maxRecDepth 20000 in
theorem ggX7_beginsTrailAt_X7_of : GoodIn wsX7_beginsTrailAt wsX7_of := (gi_cons (lg_wsX7_beginsTrailAt_0 _ (List.mem_of_getElem? (i := 4) rfl)) gi_nil)
set_option maxRecDepth 20000 in
theorem gX7_beginsTrailAt_X7_of : GoodIn wsX7_beginsTrailAt (va_wsS RX7 64 yX7_of wsX7_of) := goodIn_app (gi_cons (lg_wsX7_beginsTrailAt_0 _ (List.mem_of_getElem? (i := 1) rfl)) (gi_cons (lg_wsX7_beginsTrailAt_0 _ (List.mem_of_getElem? (i := 2) rfl)) (gi_cons (lg_wsX7_beginsTrailAt_0 _ (List.mem_of_getElem? (i := 3) rfl)) gi_nil))) ggX7_beginsTrailAt_X7_of
theorem dX7_beginsTrailAt_0 : decode cX7_beginsTrailAt 0 = .ok (.iconst 0, 1) := by decide +kernel
theorem dX7_beginsTrailAt_1 : decode cX7_beginsTrailAt 1 = .ok (.istore_n 2, 1) := by decide +kernel
theorem dX7_beginsTrailAt_2 : decode cX7_beginsTrailAt 2 = .ok (.iconst 0, 1) := by decide +kernel
theorem dX7_beginsTrailAt_3 : decode cX7_beginsTrailAt 3 = .ok (.istore_n 3, 1) := by decide +kernel
theorem dX7_beginsTrailAt_4 : decode cX7_beginsTrailAt 4 = .ok (.iload_n 3, 1) := by decide +kernel
theorem dX7_beginsTrailAt_5 : decode cX7_beginsTrailAt 5 = .ok (.aload_n 0, 1) := by decide +kernel
theorem dX7_beginsTrailAt_6 : decode cX7_beginsTrailAt 6 = .ok (.getfield 7, 3) := by decide +kernel
theorem dX7_beginsTrailAt_9 : decode cX7_beginsTrailAt 9 = .ok (.iconst 1, 1) := by decide +kernel
theorem dX7_beginsTrailAt_10 : decode cX7_beginsTrailAt 10 = .ok (.iaload, 1) := by decide +kernel
theorem dX7_beginsTrailAt_11 : decode cX7_beginsTrailAt 11 = .ok (.if_icmp .ge 34, 3) := by decide +kernel
theorem dX7_beginsTrailAt_14 : decode cX7_beginsTrailAt 14 = .ok (.iload_n 2, 1) := by decide +kernel
theorem dX7_beginsTrailAt_15 : decode cX7_beginsTrailAt 15 = .ok (.ifCond .ne 18, 3) := by decide +kernel
theorem dX7_beginsTrailAt_18 : decode cX7_beginsTrailAt 18 = .ok (.aload_n 0, 1) := by decide +kernel
theorem dX7_beginsTrailAt_19 : decode cX7_beginsTrailAt 19 = .ok (.getfield 7, 3) := by decide +kernel
theorem dX7_beginsTrailAt_22 : decode cX7_beginsTrailAt 22 = .ok (.iload_n 3, 1) := by decide +kernel
theorem dX7_beginsTrailAt_23 : decode cX7_beginsTrailAt 23 = .ok (.bipush 24, 2) := by decide +kernel
theorem dX7_beginsTrailAt_25 : decode cX7_beginsTrailAt 25 = .ok (.invokestatic 64, 3) := by decide +kernel
theorem dX7_beginsTrailAt_28 : decode cX7_beginsTrailAt 28 = .ok (.iaload, 1) := by decide +kernel
theorem dX7_beginsTrailAt_29 : decode cX7_beginsTrailAt 29 = .ok (.iload_n 1, 1) := by decide +kernel
theorem dX7_beginsTrailAt_30 : decode cX7_beginsTrailAt 30 = .ok (.if_icmp .ne 7, 3) := by decide +kernel
theorem dX7_beginsTrailAt_33 : decode cX7_beginsTrailAt 33 = .ok (.iconst 1, 1) := by decide +kernel
theorem dX7_beginsTrailAt_34 : decode cX7_beginsTrailAt 34 = .ok (.goto 4, 3) := by decide +kernel
theorem dX7_beginsTrailAt_37 : decode cX7_beginsTrailAt 37 = .ok (.iconst 0, 1) := by decide +kernel
theorem dX7_beginsTrailAt_38 : decode cX7_beginsTrailAt 38 = .ok (.istore_n 2, 1) := by decide +kernel
theorem dX7_beginsTrailAt_39 : decode cX7_beginsTrailAt 39 = .ok (.iinc 3 1, 3) := by decide +kernel
theorem dX7_beginsTrailAt_42 : decode cX7_beginsTrailAt 42 = .ok (.goto (-38), 3) := by decide +kernel
theorem dX7_beginsTrailAt_45 : decode cX7_beginsTrailAt 45 = .ok (.iload_n 2, 1) := by decide +kernel
theorem dX7_beginsTrailAt_46 : decode cX7_beginsTrailAt 46 = .ok (.ireturn, 1) := by decide +kernel
theorem lg_wsX7_rake_0 : GoodIn wsX7_rake wsX7_rake_r1 := goodIn_sub (fun _ h => (List.mem_cons_of_mem _ (List.mem_append_left _ (List.mem_append_left _ h)))) (by decide +kernel)
theorem lg_wsX7_rake_1 : GoodIn wsX7_rake wsX7_rake_r2 := goodIn_sub (fun _ h => (List.mem_cons_of_mem _ (List.mem_append_left _ (List.mem_append_right _ (List.mem_append_left _ h))))) (by decide +kernel)
theorem lg_wsX7_rake_2 : GoodIn wsX7_rake wsX7_rake_r3 := goodIn_sub (fun _ h => (List.mem_cons_of_mem _ (List.mem_append_left _ (List.mem_append_right _ (List.mem_append_right _ h))))) (by decide +kernel)
theorem ls_wsX7_rake_0 : GoodIn wsX7_rake wsX70 := goodIn_sub (fun _ h => (List.mem_cons_of_mem _ (List.mem_append_right _ h))) (by decide +kernel)
set_option maxRecDepth 20000 in
theorem ggX7_rake_X7_isTuft : GoodIn wsX7_rake wsX7_isTuft := (gi_cons (lg_wsX7_rake_0 _ (List.mem_of_getElem? (i := 4) rfl)) (gi_cons (lg_wsX7_rake_0 _ (List.mem_of_getElem? (i := 5) rfl)) (gi_cons (lg_wsX7_rake_0 _ (List.mem_of_getElem? (i := 6) rfl)) (gi_cons (lg_wsX7_rake_0 _ (List.mem_of_getElem? (i := 3) rfl)) (gi_cons (lg_wsX7_rake_0 _ (List.mem_of_getElem? (i := 7) rfl)) gi_nil)))))
set_option maxRecDepth 20000 in
theorem gX7_rake_X7_isTuft : GoodIn wsX7_rake (va_wsS RX7 120 yX7_isTuft wsX7_isTuft) := goodIn_app (gi_cons (lg_wsX7_rake_0 _ (List.mem_of_getElem? (i := 1) rfl)) (gi_cons (lg_wsX7_rake_0 _ (List.mem_of_getElem? (i := 2) rfl)) (gi_cons (lg_wsX7_rake_0 _ (List.mem_of_getElem? (i := 3) rfl)) gi_nil))) ggX7_rake_X7_isTuft
set_option maxRecDepth 20000 in
theorem ggX7_rake_X7_hasMound : GoodIn wsX7_rake wsX7_hasMound := (gi_cons (lg_wsX7_rake_0 _ (List.mem_of_getElem? (i := 11) rfl)) (goodIn_app (gi_cons (lg_wsX7_rake_0 _ (List.mem_of_getElem? (i := 0) rfl)) gi_nil) ls_wsX7_rake_0))
set_option maxRecDepth 20000 in
theorem gX7_rake_X7_hasMound : GoodIn wsX7_rake (wsV RX7 92 RX7 yX7_hasMound wsX7_hasMound) := goodIn_app (gi_cons (lg_wsX7_rake_0 _ (List.mem_of_getElem? (i := 8) rfl)) (gi_cons (lg_wsX7_rake_0 _ (List.mem_of_getElem? (i := 9) rfl)) (gi_cons (lg_wsX7_rake_0 _ (List.mem_of_getElem? (i := 10) rfl)) (gi_cons (lg_wsX7_rake_0 _ (List.mem_of_getElem? (i := 3) rfl)) gi_nil)))) ggX7_rake_X7_hasMound
set_option maxRecDepth 20000 in
theorem ggX7_rake_X7_beginsTrailAt : GoodIn wsX7_rake wsX7_beginsTrailAt := (gi_cons (lg_wsX7_rake_0 _ (List.mem_of_getElem? (i := 15) rfl)) (goodIn_app (gi_cons (lg_wsX7_rake_0 _ (List.mem_of_getElem? (i := 0) rfl)) (gi_cons (lg_wsX7_rake_0 _ (List.mem_of_getElem? (i := 16) rfl)) (gi_cons (lg_wsX7_rake_0 _ (List.mem_of_getElem? (i := 17) rfl)) (gi_cons (lg_wsX7_rake_0 _ (List.mem_of_getElem? (i := 3) rfl)) (gi_cons (lg_wsX7_rake_0 _ (List.mem_of_getElem? (i := 18) rfl)) gi_nil))))) ls_wsX7_rake_0))
set_option maxRecDepth 20000 in
theorem gX7_rake_X7_beginsTrailAt : GoodIn wsX7_rake (wsV RX7 154 RX7 yX7_beginsTrailAt wsX7_beginsTrailAt) := goodIn_app (gi_cons (lg_wsX7_rake_0 _ (List.mem_of_getElem? (i := 12) rfl)) (gi_cons (lg_wsX7_rake_0 _ (List.mem_of_getElem? (i := 13) rfl)) (gi_cons (lg_wsX7_rake_0 _ (List.mem_of_getElem? (i := 14) rfl)) (gi_cons (lg_wsX7_rake_0 _ (List.mem_of_getElem? (i := 3) rfl)) gi_nil)))) ggX7_rake_X7_beginsTrailAt
set_option maxRecDepth 20000 in
theorem ggX7_rake_X7_holds : GoodIn wsX7_rake wsX7_holds := (gi_cons (lg_wsX7_rake_0 _ (List.mem_of_getElem? (i := 22) rfl)) (goodIn_app (gi_cons (lg_wsX7_rake_0 _ (List.mem_of_getElem? (i := 23) rfl)) gi_nil) ls_wsX7_rake_0))
set_option maxRecDepth 20000 in
theorem gX7_rake_X7_holds : GoodIn wsX7_rake (wsV RX7 123 RX7 yX7_holds wsX7_holds) := goodIn_app (gi_cons (lg_wsX7_rake_0 _ (List.mem_of_getElem? (i := 19) rfl)) (gi_cons (lg_wsX7_rake_0 _ (List.mem_of_getElem? (i := 20) rfl)) (gi_cons (lg_wsX7_rake_0 _ (List.mem_of_getElem? (i := 21) rfl)) (gi_cons (lg_wsX7_rake_0 _ (List.mem_of_getElem? (i := 3) rfl)) gi_nil)))) ggX7_rake_X7_holds
set_option maxRecDepth 20000 in
theorem ggX7_rake_X7_save : GoodIn wsX7_rake wsX7_save := (gi_cons (lg_wsX7_rake_1 _ (List.mem_of_getElem? (i := 3) rfl)) (goodIn_app (gi_cons (lg_wsX7_rake_1 _ (List.mem_of_getElem? (i := 4) rfl)) (gi_cons (lg_wsX7_rake_1 _ (List.mem_of_getElem? (i := 5) rfl)) (gi_cons (lg_wsX7_rake_0 _ (List.mem_of_getElem? (i := 0) rfl)) gi_nil))) ls_wsX7_rake_0))
set_option maxRecDepth 20000 in
theorem gX7_rake_X7_save : GoodIn wsX7_rake (wsV RX7 117 RX7 yX7_save wsX7_save) := goodIn_app (gi_cons (lg_wsX7_rake_1 _ (List.mem_of_getElem? (i := 0) rfl)) (gi_cons (lg_wsX7_rake_1 _ (List.mem_of_getElem? (i := 1) rfl)) (gi_cons (lg_wsX7_rake_1 _ (List.mem_of_getElem? (i := 2) rfl)) (gi_cons (lg_wsX7_rake_0 _ (List.mem_of_getElem? (i := 3) rfl)) gi_nil)))) ggX7_rake_X7_save
set_option maxRecDepth 20000 in
theorem ggX7_rake_X7_nextEnding : GoodIn wsX7_rake wsX7_nextEnding := (gi_cons (lg_wsX7_rake_1 _ (List.mem_of_getElem? (i := 9) rfl)) (goodIn_app (gi_cons (lg_wsX7_rake_0 _ (List.mem_of_getElem? (i := 0) rfl)) (gi_cons (lg_wsX7_rake_1 _ (List.mem_of_getElem? (i := 10) rfl)) (gi_cons (lg_wsX7_rake_1 _ (List.mem_of_getElem? (i := 11) rfl)) (gi_cons (lg_wsX7_rake_1 _ (List.mem_of_getElem? (i := 12) rfl)) (gi_cons (lg_wsX7_rake_0 _ (List.mem_of_getElem? (i := 3) rfl)) (gi_cons (lg_wsX7_rake_1 _ (List.mem_of_getElem? (i := 13) rfl)) (gi_cons (lg_wsX7_rake_1 _ (List.mem_of_getElem? (i := 14) rfl)) (gi_cons (lg_wsX7_rake_1 _ (List.mem_of_getElem? (i := 15) rfl)) (gi_cons (lg_wsX7_rake_1 _ (List.mem_of_getElem? (i := 16) rfl)) (gi_cons (lg_wsX7_rake_1 _ (List.mem_of_getElem? (i := 17) rfl)) (gi_cons (lg_wsX7_rake_1 _ (List.mem_of_getElem? (i := 18) rfl)) (gi_cons (lg_wsX7_rake_1 _ (List.mem_of_getElem? (i := 19) rfl)) (gi_cons (lg_wsX7_rake_1 _ (List.mem_of_getElem? (i := 20) rfl)) (gi_cons (lg_wsX7_rake_1 _ (List.mem_of_getElem? (i := 21) rfl)) gi_nil)))))))))))))) ls_wsX7_rake_0))
set_option maxRecDepth 20000 in
theorem gX7_rake_X7_nextEnding : GoodIn wsX7_rake (wsV RX7 151 RX7 yX7_nextEnding wsX7_nextEnding) := goodIn_app (gi_cons (lg_wsX7_rake_1 _ (List.mem_of_getElem? (i := 6) rfl)) (gi_cons (lg_wsX7_rake_1 _ (List.mem_of_getElem? (i := 7) rfl)) (gi_cons (lg_wsX7_rake_1 _ (List.mem_of_getElem? (i := 8) rfl)) (gi_cons (lg_wsX7_rake_0 _ (List.mem_of_getElem? (i := 3) rfl)) gi_nil)))) ggX7_rake_X7_nextEnding
set_option maxRecDepth 20000 in
theorem ggX7_rake_X7_endFrom : GoodIn wsX7_rake wsX7_endFrom := (gi_cons (lg_wsX7_rake_1 _ (List.mem_of_getElem? (i := 21) rfl)) (goodIn_app (gi_cons (lg_wsX7_rake_0 _ (List.mem_of_getElem? (i := 0) rfl)) gi_nil) ls_wsX7_rake_0))
set_option maxRecDepth 20000 in
theorem gX7_rake_X7_endFrom : GoodIn wsX7_rake (wsV RX7 49 RX7 yX7_endFrom wsX7_endFrom) := goodIn_app (gi_cons (lg_wsX7_rake_1 _ (List.mem_of_getElem? (i := 18) rfl)) (gi_cons (lg_wsX7_rake_1 _ (List.mem_of_getElem? (i := 19) rfl)) (gi_cons (lg_wsX7_rake_1 _ (List.mem_of_getElem? (i := 20) rfl)) (gi_cons (lg_wsX7_rake_0 _ (List.mem_of_getElem? (i := 3) rfl)) gi_nil)))) ggX7_rake_X7_endFrom
set_option maxRecDepth 20000 in
theorem ggX7_rake_X7_endingAt : GoodIn wsX7_rake wsX7_endingAt := (gi_cons (lg_wsX7_rake_2 _ (List.mem_of_getElem? (i := 1) rfl)) (goodIn_app (gi_cons (lg_wsX7_rake_1 _ (List.mem_of_getElem? (i := 6) rfl)) (gi_cons (lg_wsX7_rake_1 _ (List.mem_of_getElem? (i := 7) rfl)) (gi_cons (lg_wsX7_rake_1 _ (List.mem_of_getElem? (i := 8) rfl)) (gi_cons (lg_wsX7_rake_0 _ (List.mem_of_getElem? (i := 3) rfl)) (gi_cons (lg_wsX7_rake_1 _ (List.mem_of_getElem? (i := 9) rfl)) (gi_cons (lg_wsX7_rake_0 _ (List.mem_of_getElem? (i := 0) rfl)) (gi_cons (lg_wsX7_rake_1 _ (List.mem_of_getElem? (i := 10) rfl)) (gi_cons (lg_wsX7_rake_1 _ (List.mem_of_getElem? (i := 11) rfl)) (gi_cons (lg_wsX7_rake_1 _ (List.mem_of_getElem? (i := 12) rfl)) (gi_cons (lg_wsX7_rake_1 _ (List.mem_of_getElem? (i := 13) rfl)) (gi_cons (lg_wsX7_rake_1 _ (List.mem_of_getElem? (i := 14) rfl)) (gi_cons (lg_wsX7_rake_1 _ (List.mem_of_getElem? (i := 15) rfl)) (gi_cons (lg_wsX7_rake_1 _ (List.mem_of_getElem? (i := 16) rfl)) (gi_cons (lg_wsX7_rake_1 _ (List.mem_of_getElem? (i := 17) rfl)) (gi_cons (lg_wsX7_rake_1 _ (List.mem_of_getElem? (i := 18) rfl)) (gi_cons (lg_wsX7_rake_1 _ (List.mem_of_getElem? (i := 19) rfl)) (gi_cons (lg_wsX7_rake_1 _ (List.mem_of_getElem? (i := 20) rfl)) (gi_cons (lg_wsX7_rake_1 _ (List.mem_of_getElem? (i := 21) rfl)) gi_nil)))))))))))))))))) ls_wsX7_rake_0))
set_option maxRecDepth 20000 in
theorem gX7_rake_X7_endingAt : GoodIn wsX7_rake (wsV RX7 157 RX7 yX7_endingAt wsX7_endingAt) := goodIn_app (gi_cons (lg_wsX7_rake_1 _ (List.mem_of_getElem? (i := 22) rfl)) (gi_cons (lg_wsX7_rake_1 _ (List.mem_of_getElem? (i := 23) rfl)) (gi_cons (lg_wsX7_rake_2 _ (List.mem_of_getElem? (i := 0) rfl)) (gi_cons (lg_wsX7_rake_0 _ (List.mem_of_getElem? (i := 3) rfl)) gi_nil)))) ggX7_rake_X7_endingAt
set_option maxRecDepth 20000 in
theorem ggX7_rake_X7_otherEnd : GoodIn wsX7_rake wsX7_otherEnd := (gi_cons (lg_wsX7_rake_2 _ (List.mem_of_getElem? (i := 5) rfl)) (goodIn_app (gi_cons (lg_wsX7_rake_1 _ (List.mem_of_getElem? (i := 14) rfl)) (gi_cons (lg_wsX7_rake_1 _ (List.mem_of_getElem? (i := 15) rfl)) (gi_cons (lg_wsX7_rake_1 _ (List.mem_of_getElem? (i := 16) rfl)) (gi_cons (lg_wsX7_rake_0 _ (List.mem_of_getElem? (i := 3) rfl)) (gi_cons (lg_wsX7_rake_1 _ (List.mem_of_getElem? (i := 17) rfl)) (gi_cons (lg_wsX7_rake_0 _ (List.mem_of_getElem? (i := 0) rfl)) (gi_cons (lg_wsX7_rake_1 _ (List.mem_of_getElem? (i := 18) rfl)) (gi_cons (lg_wsX7_rake_1 _ (List.mem_of_getElem? (i := 19) rfl)) (gi_cons (lg_wsX7_rake_1 _ (List.mem_of_getElem? (i := 20) rfl)) (gi_cons (lg_wsX7_rake_1 _ (List.mem_of_getElem? (i := 21) rfl)) gi_nil)))))))))) ls_wsX7_rake_0))
set_option maxRecDepth 20000 in
theorem gX7_rake_X7_otherEnd : GoodIn wsX7_rake (wsV RX7 160 RX7 yX7_otherEnd wsX7_otherEnd) := goodIn_app (gi_cons (lg_wsX7_rake_2 _ (List.mem_of_getElem? (i := 2) rfl)) (gi_cons (lg_wsX7_rake_2 _ (List.mem_of_getElem? (i := 3) rfl)) (gi_cons (lg_wsX7_rake_2 _ (List.mem_of_getElem? (i := 4) rfl)) (gi_cons (lg_wsX7_rake_0 _ (List.mem_of_getElem? (i := 3) rfl)) gi_nil)))) ggX7_rake_X7_otherEnd
set_option maxRecDepth 20000 in
theorem ggX7_rake_X7_joins : GoodIn wsX7_rake wsX7_joins := (gi_cons (lg_wsX7_rake_2 _ (List.mem_of_getElem? (i := 9) rfl)) (goodIn_app (gi_cons (lg_wsX7_rake_2 _ (List.mem_of_getElem? (i := 10) rfl)) (gi_cons (lg_wsX7_rake_0 _ (List.mem_of_getElem? (i := 0) rfl)) (gi_cons (lg_wsX7_rake_1 _ (List.mem_of_getElem? (i := 18) rfl)) (gi_cons (lg_wsX7_rake_1 _ (List.mem_of_getElem? (i := 19) rfl)) (gi_cons (lg_wsX7_rake_1 _ (List.mem_of_getElem? (i := 20) rfl)) (gi_cons (lg_wsX7_rake_0 _ (List.mem_of_getElem? (i := 3) rfl)) (gi_cons (lg_wsX7_rake_1 _ (List.mem_of_getElem? (i := 21) rfl)) (gi_cons (lg_wsX7_rake_1 _ (List.mem_of_getElem? (i := 14) rfl)) (gi_cons (lg_wsX7_rake_1 _ (List.mem_of_getElem? (i := 15) rfl)) (gi_cons (lg_wsX7_rake_1 _ (List.mem_of_getElem? (i := 16) rfl)) (gi_cons (lg_wsX7_rake_1 _ (List.mem_of_getElem? (i := 17) rfl)) (gi_cons (lg_wsX7_rake_2 _ (List.mem_of_getElem? (i := 11) rfl)) (gi_cons (lg_wsX7_rake_2 _ (List.mem_of_getElem? (i := 12) rfl)) (gi_cons (lg_wsX7_rake_2 _ (List.mem_of_getElem? (i := 13) rfl)) (gi_cons (lg_wsX7_rake_2 _ (List.mem_of_getElem? (i := 14) rfl)) gi_nil))))))))))))))) ls_wsX7_rake_0))
set_option maxRecDepth 20000 in
theorem gX7_rake_X7_joins : GoodIn wsX7_rake (wsV RX7 163 RX7 yX7_joins wsX7_joins) := goodIn_app (gi_cons (lg_wsX7_rake_2 _ (List.mem_of_getElem? (i := 6) rfl)) (gi_cons (lg_wsX7_rake_2 _ (List.mem_of_getElem? (i := 7) rfl)) (gi_cons (lg_wsX7_rake_2 _ (List.mem_of_getElem? (i := 8) rfl)) (gi_cons (lg_wsX7_rake_0 _ (List.mem_of_getElem? (i := 3) rfl)) gi_nil)))) ggX7_rake_X7_joins
set_option maxRecDepth 20000 in
theorem ggX7_rake_X7_fallsIn : GoodIn wsX7_rake wsX7_fallsIn := (gi_cons (lg_wsX7_rake_2 _ (List.mem_of_getElem? (i := 18) rfl)) (goodIn_app (gi_cons (lg_wsX7_rake_0 _ (List.mem_of_getElem? (i := 0) rfl)) (gi_cons (lg_wsX7_rake_1 _ (List.mem_of_getElem? (i := 18) rfl)) (gi_cons (lg_wsX7_rake_1 _ (List.mem_of_getElem? (i := 19) rfl)) (gi_cons (lg_wsX7_rake_1 _ (List.mem_of_getElem? (i := 20) rfl)) (gi_cons (lg_wsX7_rake_0 _ (List.mem_of_getElem? (i := 3) rfl)) (gi_cons (lg_wsX7_rake_1 _ (List.mem_of_getElem? (i := 21) rfl)) (gi_cons (lg_wsX7_rake_2 _ (List.mem_of_getElem? (i := 19) rfl)) (gi_cons (lg_wsX7_rake_2 _ (List.mem_of_getElem? (i := 20) rfl)) (gi_cons (lg_wsX7_rake_2 _ (List.mem_of_getElem? (i := 21) rfl)) (gi_cons (lg_wsX7_rake_2 _ (List.mem_of_getElem? (i := 22) rfl)) (gi_cons (lg_wsX7_rake_1 _ (List.mem_of_getElem? (i := 14) rfl)) (gi_cons (lg_wsX7_rake_1 _ (List.mem_of_getElem? (i := 15) rfl)) (gi_cons (lg_wsX7_rake_1 _ (List.mem_of_getElem? (i := 16) rfl)) (gi_cons (lg_wsX7_rake_1 _ (List.mem_of_getElem? (i := 17) rfl)) (gi_cons (lg_wsX7_rake_2 _ (List.mem_of_getElem? (i := 11) rfl)) (gi_cons (lg_wsX7_rake_2 _ (List.mem_of_getElem? (i := 12) rfl)) (gi_cons (lg_wsX7_rake_2 _ (List.mem_of_getElem? (i := 13) rfl)) (gi_cons (lg_wsX7_rake_2 _ (List.mem_of_getElem? (i := 14) rfl)) gi_nil)))))))))))))))))) ls_wsX7_rake_0))
set_option maxRecDepth 20000 in
theorem gX7_rake_X7_fallsIn : GoodIn wsX7_rake (wsV RX7 142 RX7 yX7_fallsIn wsX7_fallsIn) := goodIn_app (gi_cons (lg_wsX7_rake_2 _ (List.mem_of_getElem? (i := 15) rfl)) (gi_cons (lg_wsX7_rake_2 _ (List.mem_of_getElem? (i := 16) rfl)) (gi_cons (lg_wsX7_rake_2 _ (List.mem_of_getElem? (i := 17) rfl)) (gi_cons (lg_wsX7_rake_0 _ (List.mem_of_getElem? (i := 3) rfl)) gi_nil)))) ggX7_rake_X7_fallsIn
theorem dX7_rake_0 : decode cX7_rake 0 = .ok (.aload_n 0, 1) := by decide +kernel
theorem dX7_rake_1 : decode cX7_rake 1 = .ok (.iload_n 1, 1) := by decide +kernel
theorem dX7_rake_2 : decode cX7_rake 2 = .ok (.invokestatic 120, 3) := by decide +kernel
theorem dX7_rake_5 : decode cX7_rake 5 = .ok (.ifCond .ne 7, 3) := by decide +kernel
theorem dX7_rake_8 : decode cX7_rake 8 = .ok (.iconst 1, 1) := by decide +kernel
theorem dX7_rake_9 : decode cX7_rake 9 = .ok (.goto 24, 3) := by decide +kernel
theorem dX7_rake_12 : decode cX7_rake 12 = .ok (.aload_n 0, 1) := by decide +kernel
theorem dX7_rake_13 : decode cX7_rake 13 = .ok (.iload_n 1, 1) := by decide +kernel
theorem dX7_rake_14 : decode cX7_rake 14 = .ok (.invokevirtual 92, 3) := by decide +kernel
theorem dX7_rake_17 : decode cX7_rake 17 = .ok (.ifCond .eq 11, 3) := by decide +kernel
theorem dX7_rake_20 : decode cX7_rake 20 = .ok (.aload_n 0, 1) := by decide +kernel
theorem dX7_rake_21 : decode cX7_rake 21 = .ok (.iload_n 1, 1) := by decide +kernel
theorem dX7_rake_22 : decode cX7_rake 22 = .ok (.invokevirtual 154, 3) := by decide +kernel
theorem dX7_rake_25 : decode cX7_rake 25 = .ok (.ifCond .eq 7, 3) := by decide +kernel
theorem dX7_rake_28 : decode cX7_rake 28 = .ok (.iconst 2, 1) := by decide +kernel
theorem dX7_rake_29 : decode cX7_rake 29 = .ok (.goto 4, 3) := by decide +kernel
theorem dX7_rake_32 : decode cX7_rake 32 = .ok (.iconst 0, 1) := by decide +kernel
theorem dX7_rake_33 : decode cX7_rake 33 = .ok (.invokevirtual 123, 3) := by decide +kernel
theorem dX7_rake_36 : decode cX7_rake 36 = .ok (.ifCond .ne 5, 3) := by decide +kernel
theorem dX7_rake_39 : decode cX7_rake 39 = .ok (.iconst 0, 1) := by decide +kernel
theorem dX7_rake_40 : decode cX7_rake 40 = .ok (.ireturn, 1) := by decide +kernel
theorem dX7_rake_41 : decode cX7_rake 41 = .ok (.aload_n 0, 1) := by decide +kernel
theorem dX7_rake_42 : decode cX7_rake 42 = .ok (.invokevirtual 117, 3) := by decide +kernel
theorem dX7_rake_45 : decode cX7_rake 45 = .ok (.aload_n 0, 1) := by decide +kernel
theorem dX7_rake_46 : decode cX7_rake 46 = .ok (.getfield 7, 3) := by decide +kernel
theorem dX7_rake_49 : decode cX7_rake 49 = .ok (.bipush 8, 2) := by decide +kernel
theorem dX7_rake_51 : decode cX7_rake 51 = .ok (.iload_n 1, 1) := by decide +kernel
theorem dX7_rake_52 : decode cX7_rake 52 = .ok (.iadd, 1) := by decide +kernel
theorem dX7_rake_53 : decode cX7_rake 53 = .ok (.iconst 0, 1) := by decide +kernel
theorem dX7_rake_54 : decode cX7_rake 54 = .ok (.iastore, 1) := by decide +kernel
theorem dX7_rake_55 : decode cX7_rake 55 = .ok (.aload_n 0, 1) := by decide +kernel
theorem dX7_rake_56 : decode cX7_rake 56 = .ok (.iconst 0, 1) := by decide +kernel
theorem dX7_rake_57 : decode cX7_rake 57 = .ok (.iload_n 1, 1) := by decide +kernel
theorem dX7_rake_58 : decode cX7_rake 58 = .ok (.invokevirtual 151, 3) := by decide +kernel
theorem dX7_rake_61 : decode cX7_rake 61 = .ok (.istore_n 2, 1) := by decide +kernel
theorem dX7_rake_62 : decode cX7_rake 62 = .ok (.iload_n 2, 1) := by decide +kernel
theorem dX7_rake_63 : decode cX7_rake 63 = .ok (.iconst (-1), 1) := by decide +kernel
theorem dX7_rake_64 : decode cX7_rake 64 = .ok (.if_icmp .ne 7, 3) := by decide +kernel
theorem dX7_rake_67 : decode cX7_rake 67 = .ok (.iconst (-1), 1) := by decide +kernel
theorem dX7_rake_68 : decode cX7_rake 68 = .ok (.goto 15, 3) := by decide +kernel
theorem dX7_rake_71 : decode cX7_rake 71 = .ok (.aload_n 0, 1) := by decide +kernel
theorem dX7_rake_72 : decode cX7_rake 72 = .ok (.aload_n 0, 1) := by decide +kernel
theorem dX7_rake_73 : decode cX7_rake 73 = .ok (.iload_n 2, 1) := by decide +kernel
theorem dX7_rake_74 : decode cX7_rake 74 = .ok (.invokevirtual 49, 3) := by decide +kernel
theorem dX7_rake_77 : decode cX7_rake 77 = .ok (.iconst 1, 1) := by decide +kernel
theorem dX7_rake_78 : decode cX7_rake 78 = .ok (.iadd, 1) := by decide +kernel
theorem dX7_rake_79 : decode cX7_rake 79 = .ok (.iload_n 1, 1) := by decide +kernel
theorem dX7_rake_80 : decode cX7_rake 80 = .ok (.invokevirtual 151, 3) := by decide +kernel
theorem dX7_rake_83 : decode cX7_rake 83 = .ok (.istore_n 3, 1) := by decide +kernel
theorem dX7_rake_84 : decode cX7_rake 84 = .ok (.aload_n 0, 1) := by decide +kernel
theorem dX7_rake_85 : decode cX7_rake 85 = .ok (.iload_n 1, 1) := by decide +kernel
theorem dX7_rake_86 : decode cX7_rake 86 = .ok (.invokevirtual 157, 3) := by decide +kernel
theorem dX7_rake_89 : decode cX7_rake 89 = .ok (.iconst 2, 1) := by decide +kernel
theorem dX7_rake_90 : decode cX7_rake 90 = .ok (.if_icmp .ne 27, 3) := by decide +kernel
theorem dX7_rake_93 : decode cX7_rake 93 = .ok (.aload_n 0, 1) := by decide +kernel
theorem dX7_rake_94 : decode cX7_rake 94 = .ok (.iload_n 2, 1) := by decide +kernel
theorem dX7_rake_95 : decode cX7_rake 95 = .ok (.iload_n 1, 1) := by decide +kernel
theorem dX7_rake_96 : decode cX7_rake 96 = .ok (.invokevirtual 160, 3) := by decide +kernel
theorem dX7_rake_99 : decode cX7_rake 99 = .ok (.aload_n 0, 1) := by decide +kernel
theorem dX7_rake_100 : decode cX7_rake 100 = .ok (.iload_n 3, 1) := by decide +kernel
theorem dX7_rake_101 : decode cX7_rake 101 = .ok (.iload_n 1, 1) := by decide +kernel
theorem dX7_rake_102 : decode cX7_rake 102 = .ok (.invokevirtual 160, 3) := by decide +kernel
theorem dX7_rake_105 : decode cX7_rake 105 = .ok (.if_icmp .eq 12, 3) := by decide +kernel
theorem dX7_rake_108 : decode cX7_rake 108 = .ok (.aload_n 0, 1) := by decide +kernel
theorem dX7_rake_109 : decode cX7_rake 109 = .ok (.iload_n 2, 1) := by decide +kernel
theorem dX7_rake_110 : decode cX7_rake 110 = .ok (.iload_n 3, 1) := by decide +kernel
theorem dX7_rake_111 : decode cX7_rake 111 = .ok (.iload_n 1, 1) := by decide +kernel
theorem dX7_rake_112 : decode cX7_rake 112 = .ok (.invokevirtual 163, 3) := by decide +kernel
theorem dX7_rake_115 : decode cX7_rake 115 = .ok (.iconst 1, 1) := by decide +kernel
theorem dX7_rake_116 : decode cX7_rake 116 = .ok (.ireturn, 1) := by decide +kernel
theorem dX7_rake_117 : decode cX7_rake 117 = .ok (.aload_n 0, 1) := by decide +kernel
theorem dX7_rake_118 : decode cX7_rake 118 = .ok (.iload_n 1, 1) := by decide +kernel
theorem dX7_rake_119 : decode cX7_rake 119 = .ok (.invokevirtual 142, 3) := by decide +kernel
theorem dX7_rake_122 : decode cX7_rake 122 = .ok (.ireturn, 1) := by decide +kernel
theorem lg_wsX7_set_0 : GoodIn wsX7_set ([.fieldLink RX7 7 "MolesLawnModel" "s" "[I", .methodLink RX7 42 yX7_in, .static yX7_in, .initialized RX7, .code yX7_in cX7_in 3 (some .boolean), .methodLink RX7 123 yX7_holds, .instanceMethod yX7_holds, .selects RX7 yX7_holds yX7_holds, .code yX7_holds cX7_holds 2 (some .boolean), .fieldLink RX7 38 "MolesLawnModel" "thrown" "I", .methodLink RX7 135 yX7_lays, .instanceMethod yX7_lays, .selects RX7 yX7_lays yX7_lays, .code yX7_lays cX7_lays 4 (some .int), .methodLink RX7 117 yX7_save, .instanceMethod yX7_save, .selects RX7 yX7_save yX7_save, .code yX7_save cX7_save 2 none, .fieldLink RX7 46 "MolesLawnModel" "savedMany" "I", .fieldLink RX7 19 "MolesLawnModel" "saved" "[I", .methodLink RX7 64 yX7_of, .static yX7_of, .code yX7_of cX7_of 2 (some .int)] : List Cond) := goodIn_sub (fun _ h => (List.mem_cons_of_mem _ (List.mem_append_left _ h))) (by decide +kernel)
theorem ls_wsX7_set_0 : GoodIn wsX7_set wsX70 := goodIn_sub (fun _ h => (List.mem_cons_of_mem _ (List.mem_append_right _ h))) (by decide +kernel)
set_option maxRecDepth 20000 in
theorem ggX7_set_X7_in : GoodIn wsX7_set wsX7_in := (gi_cons (lg_wsX7_set_0 _ (List.mem_of_getElem? (i := 4) rfl)) gi_nil)
set_option maxRecDepth 20000 in
theorem gX7_set_X7_in : GoodIn wsX7_set (va_wsS RX7 42 yX7_in wsX7_in) := goodIn_app (gi_cons (lg_wsX7_set_0 _ (List.mem_of_getElem? (i := 1) rfl)) (gi_cons (lg_wsX7_set_0 _ (List.mem_of_getElem? (i := 2) rfl)) (gi_cons (lg_wsX7_set_0 _ (List.mem_of_getElem? (i := 3) rfl)) gi_nil))) ggX7_set_X7_in
set_option maxRecDepth 20000 in
theorem ggX7_set_X7_holds : GoodIn wsX7_set wsX7_holds := (gi_cons (lg_wsX7_set_0 _ (List.mem_of_getElem? (i := 8) rfl)) (goodIn_app (gi_cons (lg_wsX7_set_0 _ (List.mem_of_getElem? (i := 9) rfl)) gi_nil) ls_wsX7_set_0))
set_option maxRecDepth 20000 in
theorem gX7_set_X7_holds : GoodIn wsX7_set (wsV RX7 123 RX7 yX7_holds wsX7_holds) := goodIn_app (gi_cons (lg_wsX7_set_0 _ (List.mem_of_getElem? (i := 5) rfl)) (gi_cons (lg_wsX7_set_0 _ (List.mem_of_getElem? (i := 6) rfl)) (gi_cons (lg_wsX7_set_0 _ (List.mem_of_getElem? (i := 7) rfl)) (gi_cons (lg_wsX7_set_0 _ (List.mem_of_getElem? (i := 3) rfl)) gi_nil)))) ggX7_set_X7_holds
set_option maxRecDepth 20000 in
theorem ggX7_set_X7_lays : GoodIn wsX7_set wsX7_lays := (gi_cons (lg_wsX7_set_0 _ (List.mem_of_getElem? (i := 13) rfl)) (goodIn_app (gi_cons (lg_wsX7_set_0 _ (List.mem_of_getElem? (i := 0) rfl)) (gi_cons (lg_wsX7_set_0 _ (List.mem_of_getElem? (i := 14) rfl)) (gi_cons (lg_wsX7_set_0 _ (List.mem_of_getElem? (i := 15) rfl)) (gi_cons (lg_wsX7_set_0 _ (List.mem_of_getElem? (i := 16) rfl)) (gi_cons (lg_wsX7_set_0 _ (List.mem_of_getElem? (i := 3) rfl)) (gi_cons (lg_wsX7_set_0 _ (List.mem_of_getElem? (i := 17) rfl)) (gi_cons (lg_wsX7_set_0 _ (List.mem_of_getElem? (i := 18) rfl)) (gi_cons (lg_wsX7_set_0 _ (List.mem_of_getElem? (i := 19) rfl)) gi_nil)))))))) ls_wsX7_set_0))
set_option maxRecDepth 20000 in
theorem gX7_set_X7_lays : GoodIn wsX7_set (wsV RX7 135 RX7 yX7_lays wsX7_lays) := goodIn_app (gi_cons (lg_wsX7_set_0 _ (List.mem_of_getElem? (i := 10) rfl)) (gi_cons (lg_wsX7_set_0 _ (List.mem_of_getElem? (i := 11) rfl)) (gi_cons (lg_wsX7_set_0 _ (List.mem_of_getElem? (i := 12) rfl)) (gi_cons (lg_wsX7_set_0 _ (List.mem_of_getElem? (i := 3) rfl)) gi_nil)))) ggX7_set_X7_lays
set_option maxRecDepth 20000 in
theorem ggX7_set_X7_of : GoodIn wsX7_set wsX7_of := (gi_cons (lg_wsX7_set_0 _ (List.mem_of_getElem? (i := 22) rfl)) gi_nil)
set_option maxRecDepth 20000 in
theorem gX7_set_X7_of : GoodIn wsX7_set (va_wsS RX7 64 yX7_of wsX7_of) := goodIn_app (gi_cons (lg_wsX7_set_0 _ (List.mem_of_getElem? (i := 20) rfl)) (gi_cons (lg_wsX7_set_0 _ (List.mem_of_getElem? (i := 21) rfl)) (gi_cons (lg_wsX7_set_0 _ (List.mem_of_getElem? (i := 3) rfl)) gi_nil))) ggX7_set_X7_of
theorem dX7_set_0 : decode cX7_set 0 = .ok (.aload_n 0, 1) := by decide +kernel
theorem dX7_set_1 : decode cX7_set 1 = .ok (.iload_n 1, 1) := by decide +kernel
theorem dX7_set_2 : decode cX7_set 2 = .ok (.iconst 2, 1) := by decide +kernel
theorem dX7_set_3 : decode cX7_set 3 = .ok (.bipush 20, 2) := by decide +kernel
theorem dX7_set_5 : decode cX7_set 5 = .ok (.invokestatic 42, 3) := by decide +kernel
theorem dX7_set_8 : decode cX7_set 8 = .ok (.ifCond .eq 7, 3) := by decide +kernel
theorem dX7_set_11 : decode cX7_set 11 = .ok (.iconst 0, 1) := by decide +kernel
theorem dX7_set_12 : decode cX7_set 12 = .ok (.goto 4, 3) := by decide +kernel
theorem dX7_set_15 : decode cX7_set 15 = .ok (.iconst 1, 1) := by decide +kernel
theorem dX7_set_16 : decode cX7_set 16 = .ok (.invokevirtual 123, 3) := by decide +kernel
theorem dX7_set_19 : decode cX7_set 19 = .ok (.ifCond .ne 5, 3) := by decide +kernel
theorem dX7_set_22 : decode cX7_set 22 = .ok (.iconst 0, 1) := by decide +kernel
theorem dX7_set_23 : decode cX7_set 23 = .ok (.ireturn, 1) := by decide +kernel
theorem dX7_set_24 : decode cX7_set 24 = .ok (.aload_n 0, 1) := by decide +kernel
theorem dX7_set_25 : decode cX7_set 25 = .ok (.bipush 6, 2) := by decide +kernel
theorem dX7_set_27 : decode cX7_set 27 = .ok (.iload_n 1, 1) := by decide +kernel
theorem dX7_set_28 : decode cX7_set 28 = .ok (.invokevirtual 135, 3) := by decide +kernel
theorem dX7_set_31 : decode cX7_set 31 = .ok (.istore_n 2, 1) := by decide +kernel
theorem dX7_set_32 : decode cX7_set 32 = .ok (.iconst 0, 1) := by decide +kernel
theorem dX7_set_33 : decode cX7_set 33 = .ok (.istore_n 3, 1) := by decide +kernel
theorem dX7_set_34 : decode cX7_set 34 = .ok (.iload_n 3, 1) := by decide +kernel
theorem dX7_set_35 : decode cX7_set 35 = .ok (.aload_n 0, 1) := by decide +kernel
theorem dX7_set_36 : decode cX7_set 36 = .ok (.getfield 7, 3) := by decide +kernel
theorem dX7_set_39 : decode cX7_set 39 = .ok (.iconst 1, 1) := by decide +kernel
theorem dX7_set_40 : decode cX7_set 40 = .ok (.iaload, 1) := by decide +kernel
theorem dX7_set_41 : decode cX7_set 41 = .ok (.if_icmp .ge 47, 3) := by decide +kernel
theorem dX7_set_44 : decode cX7_set 44 = .ok (.aload_n 0, 1) := by decide +kernel
theorem dX7_set_45 : decode cX7_set 45 = .ok (.getfield 7, 3) := by decide +kernel
theorem dX7_set_48 : decode cX7_set 48 = .ok (.iload_n 3, 1) := by decide +kernel
theorem dX7_set_49 : decode cX7_set 49 = .ok (.iconst 1, 1) := by decide +kernel
theorem dX7_set_50 : decode cX7_set 50 = .ok (.invokestatic 64, 3) := by decide +kernel
theorem dX7_set_53 : decode cX7_set 53 = .ok (.aload_n 0, 1) := by decide +kernel
theorem dX7_set_54 : decode cX7_set 54 = .ok (.getfield 7, 3) := by decide +kernel
theorem dX7_set_57 : decode cX7_set 57 = .ok (.iload_n 3, 1) := by decide +kernel
theorem dX7_set_58 : decode cX7_set 58 = .ok (.iconst 1, 1) := by decide +kernel
theorem dX7_set_59 : decode cX7_set 59 = .ok (.invokestatic 64, 3) := by decide +kernel
theorem dX7_set_62 : decode cX7_set 62 = .ok (.iaload, 1) := by decide +kernel
theorem dX7_set_63 : decode cX7_set 63 = .ok (.iload_n 1, 1) := by decide +kernel
theorem dX7_set_64 : decode cX7_set 64 = .ok (.if_icmp .le 7, 3) := by decide +kernel
theorem dX7_set_67 : decode cX7_set 67 = .ok (.iload_n 1, 1) := by decide +kernel
theorem dX7_set_68 : decode cX7_set 68 = .ok (.goto 13, 3) := by decide +kernel
theorem dX7_set_71 : decode cX7_set 71 = .ok (.aload_n 0, 1) := by decide +kernel
theorem dX7_set_72 : decode cX7_set 72 = .ok (.getfield 7, 3) := by decide +kernel
theorem dX7_set_75 : decode cX7_set 75 = .ok (.iload_n 3, 1) := by decide +kernel
theorem dX7_set_76 : decode cX7_set 76 = .ok (.iconst 1, 1) := by decide +kernel
theorem dX7_set_77 : decode cX7_set 77 = .ok (.invokestatic 64, 3) := by decide +kernel
theorem dX7_set_80 : decode cX7_set 80 = .ok (.iaload, 1) := by decide +kernel
theorem dX7_set_81 : decode cX7_set 81 = .ok (.iastore, 1) := by decide +kernel
theorem dX7_set_82 : decode cX7_set 82 = .ok (.iinc 3 1, 3) := by decide +kernel
theorem dX7_set_85 : decode cX7_set 85 = .ok (.goto (-51), 3) := by decide +kernel
theorem dX7_set_88 : decode cX7_set 88 = .ok (.iload_n 2, 1) := by decide +kernel
theorem dX7_set_89 : decode cX7_set 89 = .ok (.ireturn, 1) := by decide +kernel
theorem lg_wsX7_append_0 : GoodIn wsX7_append ([.fieldLink RX7 167 "MolesLawnModel" "length" "I", .fieldLink RX7 22 "MolesLawnModel" "text" "[I", .methodLink RX7 42 yX7_in, .static yX7_in, .initialized RX7, .code yX7_in cX7_in 3 (some .boolean), .methodLink RX7 123 yX7_holds, .instanceMethod yX7_holds, .selects RX7 yX7_holds yX7_holds, .code yX7_holds cX7_holds 2 (some .boolean), .fieldLink RX7 38 "MolesLawnModel" "thrown" "I"] : List Cond) := goodIn_sub (fun _ h => (List.mem_cons_of_mem _ (List.mem_append_left _ h))) (by decide +kernel)
theorem ls_wsX7_append_0 : GoodIn wsX7_append wsX70 := goodIn_sub (fun _ h => (List.mem_cons_of_mem _ (List.mem_append_right _ h))) (by decide +kernel)
set_option maxRecDepth 20000 in
theorem ggX7_append_X7_in : GoodIn wsX7_append wsX7_in := (gi_cons (lg_wsX7_append_0 _ (List.mem_of_getElem? (i := 5) rfl)) gi_nil)
set_option maxRecDepth 20000 in
theorem gX7_append_X7_in : GoodIn wsX7_append (va_wsS RX7 42 yX7_in wsX7_in) := goodIn_app (gi_cons (lg_wsX7_append_0 _ (List.mem_of_getElem? (i := 2) rfl)) (gi_cons (lg_wsX7_append_0 _ (List.mem_of_getElem? (i := 3) rfl)) (gi_cons (lg_wsX7_append_0 _ (List.mem_of_getElem? (i := 4) rfl)) gi_nil))) ggX7_append_X7_in
set_option maxRecDepth 20000 in
theorem ggX7_append_X7_holds : GoodIn wsX7_append wsX7_holds := (gi_cons (lg_wsX7_append_0 _ (List.mem_of_getElem? (i := 9) rfl)) (goodIn_app (gi_cons (lg_wsX7_append_0 _ (List.mem_of_getElem? (i := 10) rfl)) gi_nil) ls_wsX7_append_0))
set_option maxRecDepth 20000 in
theorem gX7_append_X7_holds : GoodIn wsX7_append (wsV RX7 123 RX7 yX7_holds wsX7_holds) := goodIn_app (gi_cons (lg_wsX7_append_0 _ (List.mem_of_getElem? (i := 6) rfl)) (gi_cons (lg_wsX7_append_0 _ (List.mem_of_getElem? (i := 7) rfl)) (gi_cons (lg_wsX7_append_0 _ (List.mem_of_getElem? (i := 8) rfl)) (gi_cons (lg_wsX7_append_0 _ (List.mem_of_getElem? (i := 4) rfl)) gi_nil)))) ggX7_append_X7_holds
theorem dX7_append_0 : decode cX7_append 0 = .ok (.aload_n 0, 1) := by decide +kernel
theorem dX7_append_1 : decode cX7_append 1 = .ok (.iload_n 1, 1) := by decide +kernel
theorem dX7_append_2 : decode cX7_append 2 = .ok (.bipush 33, 2) := by decide +kernel
theorem dX7_append_4 : decode cX7_append 4 = .ok (.bipush 126, 2) := by decide +kernel
theorem dX7_append_6 : decode cX7_append 6 = .ok (.invokestatic 42, 3) := by decide +kernel
theorem dX7_append_9 : decode cX7_append 9 = .ok (.ifCond .ne 7, 3) := by decide +kernel
theorem dX7_append_12 : decode cX7_append 12 = .ok (.iconst 1, 1) := by decide +kernel
theorem dX7_append_13 : decode cX7_append 13 = .ok (.goto 17, 3) := by decide +kernel
theorem dX7_append_16 : decode cX7_append 16 = .ok (.aload_n 0, 1) := by decide +kernel
theorem dX7_append_17 : decode cX7_append 17 = .ok (.getfield 167, 3) := by decide +kernel
theorem dX7_append_20 : decode cX7_append 20 = .ok (.bipush 60, 2) := by decide +kernel
theorem dX7_append_22 : decode cX7_append 22 = .ok (.if_icmp .ne 7, 3) := by decide +kernel
theorem dX7_append_25 : decode cX7_append 25 = .ok (.iconst 2, 1) := by decide +kernel
theorem dX7_append_26 : decode cX7_append 26 = .ok (.goto 4, 3) := by decide +kernel
theorem dX7_append_29 : decode cX7_append 29 = .ok (.iconst 0, 1) := by decide +kernel
theorem dX7_append_30 : decode cX7_append 30 = .ok (.invokevirtual 123, 3) := by decide +kernel
theorem dX7_append_33 : decode cX7_append 33 = .ok (.ifCond .ne 5, 3) := by decide +kernel
theorem dX7_append_36 : decode cX7_append 36 = .ok (.iconst 0, 1) := by decide +kernel
theorem dX7_append_37 : decode cX7_append 37 = .ok (.ireturn, 1) := by decide +kernel
theorem dX7_append_38 : decode cX7_append 38 = .ok (.aload_n 0, 1) := by decide +kernel
theorem dX7_append_39 : decode cX7_append 39 = .ok (.getfield 22, 3) := by decide +kernel
theorem dX7_append_42 : decode cX7_append 42 = .ok (.aload_n 0, 1) := by decide +kernel
theorem dX7_append_43 : decode cX7_append 43 = .ok (.getfield 167, 3) := by decide +kernel
theorem dX7_append_46 : decode cX7_append 46 = .ok (.iload_n 1, 1) := by decide +kernel
theorem dX7_append_47 : decode cX7_append 47 = .ok (.iastore, 1) := by decide +kernel
theorem dX7_append_48 : decode cX7_append 48 = .ok (.aload_n 0, 1) := by decide +kernel
theorem dX7_append_49 : decode cX7_append 49 = .ok (.dup, 1) := by decide +kernel
theorem dX7_append_50 : decode cX7_append 50 = .ok (.getfield 167, 3) := by decide +kernel
theorem dX7_append_53 : decode cX7_append 53 = .ok (.iconst 1, 1) := by decide +kernel
theorem dX7_append_54 : decode cX7_append 54 = .ok (.iadd, 1) := by decide +kernel
theorem dX7_append_55 : decode cX7_append 55 = .ok (.putfield 167, 3) := by decide +kernel
theorem dX7_append_58 : decode cX7_append 58 = .ok (.aload_n 0, 1) := by decide +kernel
theorem dX7_append_59 : decode cX7_append 59 = .ok (.getfield 167, 3) := by decide +kernel
theorem dX7_append_62 : decode cX7_append 62 = .ok (.ireturn, 1) := by decide +kernel
theorem dX7_clearBuffer_0 : decode cX7_clearBuffer 0 = .ok (.aload_n 0, 1) := by decide +kernel
theorem dX7_clearBuffer_1 : decode cX7_clearBuffer 1 = .ok (.iconst 0, 1) := by decide +kernel
theorem dX7_clearBuffer_2 : decode cX7_clearBuffer 2 = .ok (.putfield 38, 3) := by decide +kernel
theorem dX7_clearBuffer_5 : decode cX7_clearBuffer 5 = .ok (.aload_n 0, 1) := by decide +kernel
theorem dX7_clearBuffer_6 : decode cX7_clearBuffer 6 = .ok (.getfield 167, 3) := by decide +kernel
theorem dX7_clearBuffer_9 : decode cX7_clearBuffer 9 = .ok (.istore_n 1, 1) := by decide +kernel
theorem dX7_clearBuffer_10 : decode cX7_clearBuffer 10 = .ok (.aload_n 0, 1) := by decide +kernel
theorem dX7_clearBuffer_11 : decode cX7_clearBuffer 11 = .ok (.iconst 0, 1) := by decide +kernel
theorem dX7_clearBuffer_12 : decode cX7_clearBuffer 12 = .ok (.putfield 167, 3) := by decide +kernel
theorem dX7_clearBuffer_15 : decode cX7_clearBuffer 15 = .ok (.iload_n 1, 1) := by decide +kernel
theorem dX7_clearBuffer_16 : decode cX7_clearBuffer 16 = .ok (.ireturn, 1) := by decide +kernel
theorem dX7_directionOf_0 : decode cX7_directionOf 0 = .ok (.iload_n 0, 1) := by decide +kernel
theorem dX7_directionOf_1 : decode cX7_directionOf 1 = .ok (.bipush 110, 2) := by decide +kernel
theorem dX7_directionOf_3 : decode cX7_directionOf 3 = .ok (.if_icmp .ne 7, 3) := by decide +kernel
theorem dX7_directionOf_6 : decode cX7_directionOf 6 = .ok (.iconst 0, 1) := by decide +kernel
theorem dX7_directionOf_7 : decode cX7_directionOf 7 = .ok (.goto 34, 3) := by decide +kernel
theorem dX7_directionOf_10 : decode cX7_directionOf 10 = .ok (.iload_n 0, 1) := by decide +kernel
theorem dX7_directionOf_11 : decode cX7_directionOf 11 = .ok (.bipush 101, 2) := by decide +kernel
theorem dX7_directionOf_13 : decode cX7_directionOf 13 = .ok (.if_icmp .ne 7, 3) := by decide +kernel
theorem dX7_directionOf_16 : decode cX7_directionOf 16 = .ok (.iconst 1, 1) := by decide +kernel
theorem dX7_directionOf_17 : decode cX7_directionOf 17 = .ok (.goto 24, 3) := by decide +kernel
theorem dX7_directionOf_20 : decode cX7_directionOf 20 = .ok (.iload_n 0, 1) := by decide +kernel
theorem dX7_directionOf_21 : decode cX7_directionOf 21 = .ok (.bipush 115, 2) := by decide +kernel
theorem dX7_directionOf_23 : decode cX7_directionOf 23 = .ok (.if_icmp .ne 7, 3) := by decide +kernel
theorem dX7_directionOf_26 : decode cX7_directionOf 26 = .ok (.iconst 2, 1) := by decide +kernel
theorem dX7_directionOf_27 : decode cX7_directionOf 27 = .ok (.goto 14, 3) := by decide +kernel
theorem dX7_directionOf_30 : decode cX7_directionOf 30 = .ok (.iload_n 0, 1) := by decide +kernel
theorem dX7_directionOf_31 : decode cX7_directionOf 31 = .ok (.bipush 119, 2) := by decide +kernel
theorem dX7_directionOf_33 : decode cX7_directionOf 33 = .ok (.if_icmp .ne 7, 3) := by decide +kernel
theorem dX7_directionOf_36 : decode cX7_directionOf 36 = .ok (.iconst 3, 1) := by decide +kernel
theorem dX7_directionOf_37 : decode cX7_directionOf 37 = .ok (.goto 4, 3) := by decide +kernel
theorem dX7_directionOf_40 : decode cX7_directionOf 40 = .ok (.iconst (-1), 1) := by decide +kernel
theorem dX7_directionOf_41 : decode cX7_directionOf 41 = .ok (.ireturn, 1) := by decide +kernel
theorem lg_wsX7_isDirection_0 : GoodIn wsX7_isDirection ([.fieldLink RX7 170 "MolesLawnModel" "isWrong" "Z", .fieldLink RX7 174 "MolesLawnModel" "position" "I", .fieldLink RX7 167 "MolesLawnModel" "length" "I", .fieldLink RX7 22 "MolesLawnModel" "text" "[I", .methodLink RX7 177 yX7_directionOf, .static yX7_directionOf, .initialized RX7, .code yX7_directionOf cX7_directionOf 1 (some .int)] : List Cond) := goodIn_sub (fun _ h => (List.mem_cons_of_mem _ (List.mem_append_left _ h))) (by decide +kernel)
theorem ls_wsX7_isDirection_0 : GoodIn wsX7_isDirection wsX70 := goodIn_sub (fun _ h => (List.mem_cons_of_mem _ (List.mem_append_right _ h))) (by decide +kernel)
set_option maxRecDepth 20000 in
theorem ggX7_isDirection_X7_directionOf : GoodIn wsX7_isDirection wsX7_directionOf := (gi_cons (lg_wsX7_isDirection_0 _ (List.mem_of_getElem? (i := 7) rfl)) gi_nil)
set_option maxRecDepth 20000 in
theorem gX7_isDirection_X7_directionOf : GoodIn wsX7_isDirection (va_wsS RX7 177 yX7_directionOf wsX7_directionOf) := goodIn_app (gi_cons (lg_wsX7_isDirection_0 _ (List.mem_of_getElem? (i := 4) rfl)) (gi_cons (lg_wsX7_isDirection_0 _ (List.mem_of_getElem? (i := 5) rfl)) (gi_cons (lg_wsX7_isDirection_0 _ (List.mem_of_getElem? (i := 6) rfl)) gi_nil))) ggX7_isDirection_X7_directionOf
theorem dX7_isDirection_0 : decode cX7_isDirection 0 = .ok (.aload_n 0, 1) := by decide +kernel
theorem dX7_isDirection_1 : decode cX7_isDirection 1 = .ok (.getfield 170, 3) := by decide +kernel
theorem dX7_isDirection_4 : decode cX7_isDirection 4 = .ok (.ifCond .ne 34, 3) := by decide +kernel
theorem dX7_isDirection_7 : decode cX7_isDirection 7 = .ok (.aload_n 0, 1) := by decide +kernel
theorem dX7_isDirection_8 : decode cX7_isDirection 8 = .ok (.getfield 174, 3) := by decide +kernel
theorem dX7_isDirection_11 : decode cX7_isDirection 11 = .ok (.aload_n 0, 1) := by decide +kernel
theorem dX7_isDirection_12 : decode cX7_isDirection 12 = .ok (.getfield 167, 3) := by decide +kernel
theorem dX7_isDirection_15 : decode cX7_isDirection 15 = .ok (.if_icmp .ge 23, 3) := by decide +kernel
theorem dX7_isDirection_18 : decode cX7_isDirection 18 = .ok (.aload_n 0, 1) := by decide +kernel
theorem dX7_isDirection_19 : decode cX7_isDirection 19 = .ok (.getfield 22, 3) := by decide +kernel
theorem dX7_isDirection_22 : decode cX7_isDirection 22 = .ok (.aload_n 0, 1) := by decide +kernel
theorem dX7_isDirection_23 : decode cX7_isDirection 23 = .ok (.getfield 174, 3) := by decide +kernel
theorem dX7_isDirection_26 : decode cX7_isDirection 26 = .ok (.iaload, 1) := by decide +kernel
theorem dX7_isDirection_27 : decode cX7_isDirection 27 = .ok (.invokestatic 177, 3) := by decide +kernel
theorem dX7_isDirection_30 : decode cX7_isDirection 30 = .ok (.iconst (-1), 1) := by decide +kernel
theorem dX7_isDirection_31 : decode cX7_isDirection 31 = .ok (.if_icmp .eq 7, 3) := by decide +kernel
theorem dX7_isDirection_34 : decode cX7_isDirection 34 = .ok (.iconst 1, 1) := by decide +kernel
theorem dX7_isDirection_35 : decode cX7_isDirection 35 = .ok (.goto 4, 3) := by decide +kernel
theorem dX7_isDirection_38 : decode cX7_isDirection 38 = .ok (.iconst 0, 1) := by decide +kernel
theorem dX7_isDirection_39 : decode cX7_isDirection 39 = .ok (.ireturn, 1) := by decide +kernel
theorem lg_wsX7_takes_0 : GoodIn wsX7_takes ([.fieldLink RX7 174 "MolesLawnModel" "position" "I", .fieldLink RX7 167 "MolesLawnModel" "length" "I", .fieldLink RX7 22 "MolesLawnModel" "text" "[I", .fieldLink RX7 170 "MolesLawnModel" "isWrong" "Z", .methodLink RX7 42 yX7_in, .static yX7_in, .initialized RX7, .code yX7_in cX7_in 3 (some .boolean)] : List Cond) := goodIn_sub (fun _ h => (List.mem_cons_of_mem _ (List.mem_append_left _ h))) (by decide +kernel)
theorem ls_wsX7_takes_0 : GoodIn wsX7_takes wsX70 := goodIn_sub (fun _ h => (List.mem_cons_of_mem _ (List.mem_append_right _ h))) (by decide +kernel)
set_option maxRecDepth 20000 in
theorem ggX7_takes_X7_in : GoodIn wsX7_takes wsX7_in := (gi_cons (lg_wsX7_takes_0 _ (List.mem_of_getElem? (i := 7) rfl)) gi_nil)
set_option maxRecDepth 20000 in
theorem gX7_takes_X7_in : GoodIn wsX7_takes (va_wsS RX7 42 yX7_in wsX7_in) := goodIn_app (gi_cons (lg_wsX7_takes_0 _ (List.mem_of_getElem? (i := 4) rfl)) (gi_cons (lg_wsX7_takes_0 _ (List.mem_of_getElem? (i := 5) rfl)) (gi_cons (lg_wsX7_takes_0 _ (List.mem_of_getElem? (i := 6) rfl)) gi_nil))) ggX7_takes_X7_in
theorem dX7_takes_0 : decode cX7_takes 0 = .ok (.aload_n 0, 1) := by decide +kernel
theorem dX7_takes_1 : decode cX7_takes 1 = .ok (.getfield 174, 3) := by decide +kernel
theorem dX7_takes_4 : decode cX7_takes 4 = .ok (.aload_n 0, 1) := by decide +kernel
theorem dX7_takes_5 : decode cX7_takes 5 = .ok (.getfield 167, 3) := by decide +kernel
theorem dX7_takes_8 : decode cX7_takes 8 = .ok (.if_icmp .ge 15, 3) := by decide +kernel
theorem dX7_takes_11 : decode cX7_takes 11 = .ok (.aload_n 0, 1) := by decide +kernel
theorem dX7_takes_12 : decode cX7_takes 12 = .ok (.getfield 22, 3) := by decide +kernel
theorem dX7_takes_15 : decode cX7_takes 15 = .ok (.aload_n 0, 1) := by decide +kernel
theorem dX7_takes_16 : decode cX7_takes 16 = .ok (.getfield 174, 3) := by decide +kernel
theorem dX7_takes_19 : decode cX7_takes 19 = .ok (.iaload, 1) := by decide +kernel
theorem dX7_takes_20 : decode cX7_takes 20 = .ok (.goto 4, 3) := by decide +kernel
theorem dX7_takes_23 : decode cX7_takes 23 = .ok (.iconst 0, 1) := by decide +kernel
theorem dX7_takes_24 : decode cX7_takes 24 = .ok (.istore_n 3, 1) := by decide +kernel
theorem dX7_takes_25 : decode cX7_takes 25 = .ok (.aload_n 0, 1) := by decide +kernel
theorem dX7_takes_26 : decode cX7_takes 26 = .ok (.aload_n 0, 1) := by decide +kernel
theorem dX7_takes_27 : decode cX7_takes 27 = .ok (.getfield 170, 3) := by decide +kernel
theorem dX7_takes_30 : decode cX7_takes 30 = .ok (.ifCond .ne 12, 3) := by decide +kernel
theorem dX7_takes_33 : decode cX7_takes 33 = .ok (.iload_n 3, 1) := by decide +kernel
theorem dX7_takes_34 : decode cX7_takes 34 = .ok (.iload_n 1, 1) := by decide +kernel
theorem dX7_takes_35 : decode cX7_takes 35 = .ok (.iload_n 2, 1) := by decide +kernel
theorem dX7_takes_36 : decode cX7_takes 36 = .ok (.invokestatic 42, 3) := by decide +kernel
theorem dX7_takes_39 : decode cX7_takes 39 = .ok (.ifCond .ne 7, 3) := by decide +kernel
theorem dX7_takes_42 : decode cX7_takes 42 = .ok (.iconst 1, 1) := by decide +kernel
theorem dX7_takes_43 : decode cX7_takes 43 = .ok (.goto 4, 3) := by decide +kernel
theorem dX7_takes_46 : decode cX7_takes 46 = .ok (.iconst 0, 1) := by decide +kernel
theorem dX7_takes_47 : decode cX7_takes 47 = .ok (.putfield 170, 3) := by decide +kernel
theorem dX7_takes_50 : decode cX7_takes 50 = .ok (.aload_n 0, 1) := by decide +kernel
theorem dX7_takes_51 : decode cX7_takes 51 = .ok (.dup, 1) := by decide +kernel
theorem dX7_takes_52 : decode cX7_takes 52 = .ok (.getfield 174, 3) := by decide +kernel
theorem dX7_takes_55 : decode cX7_takes 55 = .ok (.aload_n 0, 1) := by decide +kernel
theorem dX7_takes_56 : decode cX7_takes 56 = .ok (.getfield 170, 3) := by decide +kernel
theorem dX7_takes_59 : decode cX7_takes 59 = .ok (.ifCond .eq 7, 3) := by decide +kernel
theorem dX7_takes_62 : decode cX7_takes 62 = .ok (.iconst 0, 1) := by decide +kernel
theorem dX7_takes_63 : decode cX7_takes 63 = .ok (.goto 4, 3) := by decide +kernel
theorem dX7_takes_66 : decode cX7_takes 66 = .ok (.iconst 1, 1) := by decide +kernel
theorem dX7_takes_67 : decode cX7_takes 67 = .ok (.iadd, 1) := by decide +kernel
theorem dX7_takes_68 : decode cX7_takes 68 = .ok (.putfield 174, 3) := by decide +kernel
theorem dX7_takes_71 : decode cX7_takes 71 = .ok (.iload_n 3, 1) := by decide +kernel
theorem dX7_takes_72 : decode cX7_takes 72 = .ok (.iload_n 1, 1) := by decide +kernel
theorem dX7_takes_73 : decode cX7_takes 73 = .ok (.isub, 1) := by decide +kernel
theorem dX7_takes_74 : decode cX7_takes 74 = .ok (.ireturn, 1) := by decide +kernel
theorem lg_wsX7_reads_0 : GoodIn wsX7_reads wsX7_reads_r1 := goodIn_sub (fun _ h => (List.mem_cons_of_mem _ (List.mem_append_left _ (List.mem_append_left _ h)))) (by decide +kernel)
theorem lg_wsX7_reads_1 : GoodIn wsX7_reads wsX7_reads_r2 := goodIn_sub (fun _ h => (List.mem_cons_of_mem _ (List.mem_append_left _ (List.mem_append_right _ h)))) (by decide +kernel)
theorem ls_wsX7_reads_0 : GoodIn wsX7_reads wsX70 := goodIn_sub (fun _ h => (List.mem_cons_of_mem _ (List.mem_append_right _ h))) (by decide +kernel)
set_option maxRecDepth 20000 in
theorem ggX7_reads_X7_takes : GoodIn wsX7_reads wsX7_takes := (gi_cons (lg_wsX7_reads_0 _ (List.mem_of_getElem? (i := 8) rfl)) (goodIn_app (gi_cons (lg_wsX7_reads_0 _ (List.mem_of_getElem? (i := 0) rfl)) (gi_cons (lg_wsX7_reads_0 _ (List.mem_of_getElem? (i := 3) rfl)) (gi_cons (lg_wsX7_reads_0 _ (List.mem_of_getElem? (i := 2) rfl)) (gi_cons (lg_wsX7_reads_0 _ (List.mem_of_getElem? (i := 1) rfl)) (gi_cons (lg_wsX7_reads_0 _ (List.mem_of_getElem? (i := 9) rfl)) (gi_cons (lg_wsX7_reads_0 _ (List.mem_of_getElem? (i := 10) rfl)) (gi_cons (lg_wsX7_reads_0 _ (List.mem_of_getElem? (i := 7) rfl)) (gi_cons (lg_wsX7_reads_0 _ (List.mem_of_getElem? (i := 11) rfl)) gi_nil)))))))) ls_wsX7_reads_0))
set_option maxRecDepth 20000 in
theorem gX7_reads_X7_takes : GoodIn wsX7_reads (wsV RX7 180 RX7 yX7_takes wsX7_takes) := goodIn_app (gi_cons (lg_wsX7_reads_0 _ (List.mem_of_getElem? (i := 4) rfl)) (gi_cons (lg_wsX7_reads_0 _ (List.mem_of_getElem? (i := 5) rfl)) (gi_cons (lg_wsX7_reads_0 _ (List.mem_of_getElem? (i := 6) rfl)) (gi_cons (lg_wsX7_reads_0 _ (List.mem_of_getElem? (i := 7) rfl)) gi_nil)))) ggX7_reads_X7_takes
set_option maxRecDepth 20000 in
theorem ggX7_reads_X7_isDirection : GoodIn wsX7_reads wsX7_isDirection := (gi_cons (lg_wsX7_reads_0 _ (List.mem_of_getElem? (i := 15) rfl)) (goodIn_app (gi_cons (lg_wsX7_reads_0 _ (List.mem_of_getElem? (i := 1) rfl)) (gi_cons (lg_wsX7_reads_0 _ (List.mem_of_getElem? (i := 0) rfl)) (gi_cons (lg_wsX7_reads_0 _ (List.mem_of_getElem? (i := 3) rfl)) (gi_cons (lg_wsX7_reads_0 _ (List.mem_of_getElem? (i := 2) rfl)) (gi_cons (lg_wsX7_reads_0 _ (List.mem_of_getElem? (i := 16) rfl)) (gi_cons (lg_wsX7_reads_0 _ (List.mem_of_getElem? (i := 17) rfl)) (gi_cons (lg_wsX7_reads_0 _ (List.mem_of_getElem? (i := 7) rfl)) (gi_cons (lg_wsX7_reads_0 _ (List.mem_of_getElem? (i := 18) rfl)) gi_nil)))))))) ls_wsX7_reads_0))
set_option maxRecDepth 20000 in
theorem gX7_reads_X7_isDirection : GoodIn wsX7_reads (wsV RX7 183 RX7 yX7_isDirection wsX7_isDirection) := goodIn_app (gi_cons (lg_wsX7_reads_0 _ (List.mem_of_getElem? (i := 12) rfl)) (gi_cons (lg_wsX7_reads_0 _ (List.mem_of_getElem? (i := 13) rfl)) (gi_cons (lg_wsX7_reads_0 _ (List.mem_of_getElem? (i := 14) rfl)) (gi_cons (lg_wsX7_reads_0 _ (List.mem_of_getElem? (i := 7) rfl)) gi_nil)))) ggX7_reads_X7_isDirection
set_option maxRecDepth 20000 in
theorem ggX7_reads_X7_directionOf : GoodIn wsX7_reads wsX7_directionOf := (gi_cons (lg_wsX7_reads_0 _ (List.mem_of_getElem? (i := 18) rfl)) gi_nil)
set_option maxRecDepth 20000 in
theorem gX7_reads_X7_directionOf : GoodIn wsX7_reads (va_wsS RX7 177 yX7_directionOf wsX7_directionOf) := goodIn_app (gi_cons (lg_wsX7_reads_0 _ (List.mem_of_getElem? (i := 16) rfl)) (gi_cons (lg_wsX7_reads_0 _ (List.mem_of_getElem? (i := 17) rfl)) (gi_cons (lg_wsX7_reads_0 _ (List.mem_of_getElem? (i := 7) rfl)) gi_nil))) ggX7_reads_X7_directionOf
set_option maxRecDepth 20000 in
theorem ggX7_reads_X7_putsPlan : GoodIn wsX7_reads wsX7_putsPlan := (gi_cons (lg_wsX7_reads_0 _ (List.mem_of_getElem? (i := 22) rfl)) (goodIn_app (gi_cons (lg_wsX7_reads_0 _ (List.mem_of_getElem? (i := 23) rfl)) (gi_cons (lg_wsX7_reads_1 _ (List.mem_of_getElem? (i := 0) rfl)) (gi_cons (lg_wsX7_reads_1 _ (List.mem_of_getElem? (i := 1) rfl)) (gi_cons (lg_wsX7_reads_1 _ (List.mem_of_getElem? (i := 2) rfl)) (gi_cons (lg_wsX7_reads_0 _ (List.mem_of_getElem? (i := 7) rfl)) (gi_cons (lg_wsX7_reads_1 _ (List.mem_of_getElem? (i := 3) rfl)) (gi_cons (lg_wsX7_reads_0 _ (List.mem_of_getElem? (i := 9) rfl)) (gi_cons (lg_wsX7_reads_0 _ (List.mem_of_getElem? (i := 10) rfl)) (gi_cons (lg_wsX7_reads_0 _ (List.mem_of_getElem? (i := 11) rfl)) (gi_cons (lg_wsX7_reads_1 _ (List.mem_of_getElem? (i := 4) rfl)) (gi_cons (lg_wsX7_reads_1 _ (List.mem_of_getElem? (i := 5) rfl)) (gi_cons (lg_wsX7_reads_1 _ (List.mem_of_getElem? (i := 6) rfl)) gi_nil)))))))))))) ls_wsX7_reads_0))
set_option maxRecDepth 20000 in
theorem gX7_reads_X7_putsPlan : GoodIn wsX7_reads (wsV RX7 129 RX7 yX7_putsPlan wsX7_putsPlan) := goodIn_app (gi_cons (lg_wsX7_reads_0 _ (List.mem_of_getElem? (i := 19) rfl)) (gi_cons (lg_wsX7_reads_0 _ (List.mem_of_getElem? (i := 20) rfl)) (gi_cons (lg_wsX7_reads_0 _ (List.mem_of_getElem? (i := 21) rfl)) (gi_cons (lg_wsX7_reads_0 _ (List.mem_of_getElem? (i := 7) rfl)) gi_nil)))) ggX7_reads_X7_putsPlan
theorem dX7_reads_0 : decode cX7_reads 0 = .ok (.aload_n 0, 1) := by decide +kernel
theorem dX7_reads_1 : decode cX7_reads 1 = .ok (.iconst 0, 1) := by decide +kernel
theorem dX7_reads_2 : decode cX7_reads 2 = .ok (.putfield 174, 3) := by decide +kernel
theorem dX7_reads_5 : decode cX7_reads 5 = .ok (.aload_n 0, 1) := by decide +kernel
theorem dX7_reads_6 : decode cX7_reads 6 = .ok (.iconst 0, 1) := by decide +kernel
theorem dX7_reads_7 : decode cX7_reads 7 = .ok (.putfield 170, 3) := by decide +kernel
theorem dX7_reads_10 : decode cX7_reads 10 = .ok (.iconst 0, 1) := by decide +kernel
theorem dX7_reads_11 : decode cX7_reads 11 = .ok (.istore_n 2, 1) := by decide +kernel
theorem dX7_reads_12 : decode cX7_reads 12 = .ok (.iconst 1, 1) := by decide +kernel
theorem dX7_reads_13 : decode cX7_reads 13 = .ok (.istore_n 3, 1) := by decide +kernel
theorem dX7_reads_14 : decode cX7_reads 14 = .ok (.iload_n 3, 1) := by decide +kernel
theorem dX7_reads_15 : decode cX7_reads 15 = .ok (.ifCond .eq 153, 3) := by decide +kernel
theorem dX7_reads_18 : decode cX7_reads 18 = .ok (.aload_n 0, 1) := by decide +kernel
theorem dX7_reads_19 : decode cX7_reads 19 = .ok (.bipush 48, 2) := by decide +kernel
theorem dX7_reads_21 : decode cX7_reads 21 = .ok (.bipush 51, 2) := by decide +kernel
theorem dX7_reads_23 : decode cX7_reads 23 = .ok (.invokevirtual 180, 3) := by decide +kernel
theorem dX7_reads_26 : decode cX7_reads 26 = .ok (.istore 4, 2) := by decide +kernel
theorem dX7_reads_28 : decode cX7_reads 28 = .ok (.aload_n 0, 1) := by decide +kernel
theorem dX7_reads_29 : decode cX7_reads 29 = .ok (.bipush 58, 2) := by decide +kernel
theorem dX7_reads_31 : decode cX7_reads 31 = .ok (.bipush 58, 2) := by decide +kernel
theorem dX7_reads_33 : decode cX7_reads 33 = .ok (.invokevirtual 180, 3) := by decide +kernel
theorem dX7_reads_36 : decode cX7_reads 36 = .ok (.istore 5, 2) := by decide +kernel
theorem dX7_reads_38 : decode cX7_reads 38 = .ok (.aload_n 0, 1) := by decide +kernel
theorem dX7_reads_39 : decode cX7_reads 39 = .ok (.aload_n 0, 1) := by decide +kernel
theorem dX7_reads_40 : decode cX7_reads 40 = .ok (.getfield 170, 3) := by decide +kernel
theorem dX7_reads_43 : decode cX7_reads 43 = .ok (.ifCond .ne 10, 3) := by decide +kernel
theorem dX7_reads_46 : decode cX7_reads 46 = .ok (.aload_n 0, 1) := by decide +kernel
theorem dX7_reads_47 : decode cX7_reads 47 = .ok (.invokevirtual 183, 3) := by decide +kernel
theorem dX7_reads_50 : decode cX7_reads 50 = .ok (.ifCond .ne 7, 3) := by decide +kernel
theorem dX7_reads_53 : decode cX7_reads 53 = .ok (.iconst 1, 1) := by decide +kernel
theorem dX7_reads_54 : decode cX7_reads 54 = .ok (.goto 4, 3) := by decide +kernel
theorem dX7_reads_57 : decode cX7_reads 57 = .ok (.iconst 0, 1) := by decide +kernel
theorem dX7_reads_58 : decode cX7_reads 58 = .ok (.putfield 170, 3) := by decide +kernel
theorem dX7_reads_61 : decode cX7_reads 61 = .ok (.aload_n 0, 1) := by decide +kernel
theorem dX7_reads_62 : decode cX7_reads 62 = .ok (.invokevirtual 183, 3) := by decide +kernel
theorem dX7_reads_65 : decode cX7_reads 65 = .ok (.ifCond .eq 49, 3) := by decide +kernel
theorem dX7_reads_68 : decode cX7_reads 68 = .ok (.iload_n 2, 1) := by decide +kernel
theorem dX7_reads_69 : decode cX7_reads 69 = .ok (.iload_n 1, 1) := by decide +kernel
theorem dX7_reads_70 : decode cX7_reads 70 = .ok (.ifCond .eq 28, 3) := by decide +kernel
theorem dX7_reads_73 : decode cX7_reads 73 = .ok (.aload_n 0, 1) := by decide +kernel
theorem dX7_reads_74 : decode cX7_reads 74 = .ok (.iload 4, 2) := by decide +kernel
theorem dX7_reads_76 : decode cX7_reads 76 = .ok (.aload_n 0, 1) := by decide +kernel
theorem dX7_reads_77 : decode cX7_reads 77 = .ok (.getfield 22, 3) := by decide +kernel
theorem dX7_reads_80 : decode cX7_reads 80 = .ok (.aload_n 0, 1) := by decide +kernel
theorem dX7_reads_81 : decode cX7_reads 81 = .ok (.getfield 174, 3) := by decide +kernel
theorem dX7_reads_84 : decode cX7_reads 84 = .ok (.iaload, 1) := by decide +kernel
theorem dX7_reads_85 : decode cX7_reads 85 = .ok (.invokestatic 177, 3) := by decide +kernel
theorem dX7_reads_88 : decode cX7_reads 88 = .ok (.invokevirtual 129, 3) := by decide +kernel
theorem dX7_reads_91 : decode cX7_reads 91 = .ok (.ifCond .eq 7, 3) := by decide +kernel
theorem dX7_reads_94 : decode cX7_reads 94 = .ok (.iconst 1, 1) := by decide +kernel
theorem dX7_reads_95 : decode cX7_reads 95 = .ok (.goto 4, 3) := by decide +kernel
theorem dX7_reads_98 : decode cX7_reads 98 = .ok (.iconst 0, 1) := by decide +kernel
theorem dX7_reads_99 : decode cX7_reads 99 = .ok (.iadd, 1) := by decide +kernel
theorem dX7_reads_100 : decode cX7_reads 100 = .ok (.istore_n 2, 1) := by decide +kernel
theorem dX7_reads_101 : decode cX7_reads 101 = .ok (.aload_n 0, 1) := by decide +kernel
theorem dX7_reads_102 : decode cX7_reads 102 = .ok (.dup, 1) := by decide +kernel
theorem dX7_reads_103 : decode cX7_reads 103 = .ok (.getfield 174, 3) := by decide +kernel
theorem dX7_reads_106 : decode cX7_reads 106 = .ok (.iconst 1, 1) := by decide +kernel
theorem dX7_reads_107 : decode cX7_reads 107 = .ok (.iadd, 1) := by decide +kernel
theorem dX7_reads_108 : decode cX7_reads 108 = .ok (.putfield 174, 3) := by decide +kernel
theorem dX7_reads_111 : decode cX7_reads 111 = .ok (.goto (-50), 3) := by decide +kernel
theorem dX7_reads_114 : decode cX7_reads 114 = .ok (.aload_n 0, 1) := by decide +kernel
theorem dX7_reads_115 : decode cX7_reads 115 = .ok (.getfield 170, 3) := by decide +kernel
theorem dX7_reads_118 : decode cX7_reads 118 = .ok (.ifCond .ne 18, 3) := by decide +kernel
theorem dX7_reads_121 : decode cX7_reads 121 = .ok (.aload_n 0, 1) := by decide +kernel
theorem dX7_reads_122 : decode cX7_reads 122 = .ok (.getfield 174, 3) := by decide +kernel
theorem dX7_reads_125 : decode cX7_reads 125 = .ok (.aload_n 0, 1) := by decide +kernel
theorem dX7_reads_126 : decode cX7_reads 126 = .ok (.getfield 167, 3) := by decide +kernel
theorem dX7_reads_129 : decode cX7_reads 129 = .ok (.if_icmp .ge 7, 3) := by decide +kernel
theorem dX7_reads_132 : decode cX7_reads 132 = .ok (.iconst 1, 1) := by decide +kernel
theorem dX7_reads_133 : decode cX7_reads 133 = .ok (.goto 4, 3) := by decide +kernel
theorem dX7_reads_136 : decode cX7_reads 136 = .ok (.iconst 0, 1) := by decide +kernel
theorem dX7_reads_137 : decode cX7_reads 137 = .ok (.istore_n 3, 1) := by decide +kernel
theorem dX7_reads_138 : decode cX7_reads 138 = .ok (.iload_n 3, 1) := by decide +kernel
theorem dX7_reads_139 : decode cX7_reads 139 = .ok (.ifCond .eq 26, 3) := by decide +kernel
theorem dX7_reads_142 : decode cX7_reads 142 = .ok (.aload_n 0, 1) := by decide +kernel
theorem dX7_reads_143 : decode cX7_reads 143 = .ok (.bipush 59, 2) := by decide +kernel
theorem dX7_reads_145 : decode cX7_reads 145 = .ok (.bipush 59, 2) := by decide +kernel
theorem dX7_reads_147 : decode cX7_reads 147 = .ok (.invokevirtual 180, 3) := by decide +kernel
theorem dX7_reads_150 : decode cX7_reads 150 = .ok (.istore 6, 2) := by decide +kernel
theorem dX7_reads_152 : decode cX7_reads 152 = .ok (.aload_n 0, 1) := by decide +kernel
theorem dX7_reads_153 : decode cX7_reads 153 = .ok (.getfield 170, 3) := by decide +kernel
theorem dX7_reads_156 : decode cX7_reads 156 = .ok (.ifCond .ne 7, 3) := by decide +kernel
theorem dX7_reads_159 : decode cX7_reads 159 = .ok (.iconst 1, 1) := by decide +kernel
theorem dX7_reads_160 : decode cX7_reads 160 = .ok (.goto 4, 3) := by decide +kernel
theorem dX7_reads_163 : decode cX7_reads 163 = .ok (.iconst 0, 1) := by decide +kernel
theorem dX7_reads_164 : decode cX7_reads 164 = .ok (.istore_n 3, 1) := by decide +kernel
theorem dX7_reads_165 : decode cX7_reads 165 = .ok (.goto (-151), 3) := by decide +kernel
theorem dX7_reads_168 : decode cX7_reads 168 = .ok (.iload_n 2, 1) := by decide +kernel
theorem dX7_reads_169 : decode cX7_reads 169 = .ok (.ireturn, 1) := by decide +kernel
theorem lg_wsX7_firstError_0 : GoodIn wsX7_firstError wsX7_firstError_r1 := goodIn_sub (fun _ h => (List.mem_cons_of_mem _ (List.mem_append_left _ (List.mem_append_left _ h)))) (by decide +kernel)
theorem lg_wsX7_firstError_1 : GoodIn wsX7_firstError wsX7_firstError_r2 := goodIn_sub (fun _ h => (List.mem_cons_of_mem _ (List.mem_append_left _ (List.mem_append_right _ h)))) (by decide +kernel)
theorem ls_wsX7_firstError_0 : GoodIn wsX7_firstError wsX70 := goodIn_sub (fun _ h => (List.mem_cons_of_mem _ (List.mem_append_right _ h))) (by decide +kernel)
set_option maxRecDepth 20000 in
theorem ggX7_firstError_X7_reads : GoodIn wsX7_firstError wsX7_reads := (gi_cons (lg_wsX7_firstError_0 _ (List.mem_of_getElem? (i := 8) rfl)) (goodIn_app (goodIn_app (gi_cons (lg_wsX7_firstError_0 _ (List.mem_of_getElem? (i := 2) rfl)) (gi_cons (lg_wsX7_firstError_0 _ (List.mem_of_getElem? (i := 1) rfl)) (gi_cons (lg_wsX7_firstError_0 _ (List.mem_of_getElem? (i := 9) rfl)) (gi_cons (lg_wsX7_firstError_0 _ (List.mem_of_getElem? (i := 3) rfl)) (gi_cons (lg_wsX7_firstError_0 _ (List.mem_of_getElem? (i := 10) rfl)) (gi_cons (lg_wsX7_firstError_0 _ (List.mem_of_getElem? (i := 11) rfl)) (gi_cons (lg_wsX7_firstError_0 _ (List.mem_of_getElem? (i := 12) rfl)) (gi_cons (lg_wsX7_firstError_0 _ (List.mem_of_getElem? (i := 7) rfl)) (gi_cons (lg_wsX7_firstError_0 _ (List.mem_of_getElem? (i := 13) rfl)) (gi_cons (lg_wsX7_firstError_0 _ (List.mem_of_getElem? (i := 14) rfl)) (gi_cons (lg_wsX7_firstError_0 _ (List.mem_of_getElem? (i := 15) rfl)) (gi_cons (lg_wsX7_firstError_0 _ (List.mem_of_getElem? (i := 16) rfl)) (gi_cons (lg_wsX7_firstError_0 _ (List.mem_of_getElem? (i := 17) rfl)) (gi_cons (lg_wsX7_firstError_0 _ (List.mem_of_getElem? (i := 18) rfl)) (gi_cons (lg_wsX7_firstError_0 _ (List.mem_of_getElem? (i := 19) rfl)) (gi_cons (lg_wsX7_firstError_0 _ (List.mem_of_getElem? (i := 20) rfl)) (gi_cons (lg_wsX7_firstError_0 _ (List.mem_of_getElem? (i := 21) rfl)) (gi_cons (lg_wsX7_firstError_0 _ (List.mem_of_getElem? (i := 22) rfl)) (gi_cons (lg_wsX7_firstError_0 _ (List.mem_of_getElem? (i := 23) rfl)) (gi_cons (lg_wsX7_firstError_1 _ (List.mem_of_getElem? (i := 0) rfl)) (gi_cons (lg_wsX7_firstError_1 _ (List.mem_of_getElem? (i := 1) rfl)) (gi_cons (lg_wsX7_firstError_1 _ (List.mem_of_getElem? (i := 2) rfl)) (gi_cons (lg_wsX7_firstError_1 _ (List.mem_of_getElem? (i := 3) rfl)) (gi_cons (lg_wsX7_firstError_1 _ (List.mem_of_getElem? (i := 4) rfl)) gi_nil)))))))))))))))))))))))) (gi_cons (lg_wsX7_firstError_1 _ (List.mem_of_getElem? (i := 5) rfl)) (gi_cons (lg_wsX7_firstError_1 _ (List.mem_of_getElem? (i := 6) rfl)) (gi_cons (lg_wsX7_firstError_1 _ (List.mem_of_getElem? (i := 7) rfl)) (gi_cons (lg_wsX7_firstError_1 _ (List.mem_of_getElem? (i := 8) rfl)) (gi_cons (lg_wsX7_firstError_1 _ (List.mem_of_getElem? (i := 9) rfl)) (gi_cons (lg_wsX7_firstError_1 _ (List.mem_of_getElem? (i := 10) rfl)) (gi_cons (lg_wsX7_firstError_1 _ (List.mem_of_getElem? (i := 11) rfl)) gi_nil)))))))) ls_wsX7_firstError_0))
set_option maxRecDepth 20000 in
theorem gX7_firstError_X7_reads : GoodIn wsX7_firstError (wsV RX7 187 RX7 yX7_reads wsX7_reads) := goodIn_app (gi_cons (lg_wsX7_firstError_0 _ (List.mem_of_getElem? (i := 4) rfl)) (gi_cons (lg_wsX7_firstError_0 _ (List.mem_of_getElem? (i := 5) rfl)) (gi_cons (lg_wsX7_firstError_0 _ (List.mem_of_getElem? (i := 6) rfl)) (gi_cons (lg_wsX7_firstError_0 _ (List.mem_of_getElem? (i := 7) rfl)) gi_nil)))) ggX7_firstError_X7_reads
theorem dX7_firstError_0 : decode cX7_firstError 0 = .ok (.aload_n 0, 1) := by decide +kernel
theorem dX7_firstError_1 : decode cX7_firstError 1 = .ok (.iconst 0, 1) := by decide +kernel
theorem dX7_firstError_2 : decode cX7_firstError 2 = .ok (.putfield 38, 3) := by decide +kernel
theorem dX7_firstError_5 : decode cX7_firstError 5 = .ok (.aload_n 0, 1) := by decide +kernel
theorem dX7_firstError_6 : decode cX7_firstError 6 = .ok (.iconst 0, 1) := by decide +kernel
theorem dX7_firstError_7 : decode cX7_firstError 7 = .ok (.invokevirtual 187, 3) := by decide +kernel
theorem dX7_firstError_10 : decode cX7_firstError 10 = .ok (.istore_n 1, 1) := by decide +kernel
theorem dX7_firstError_11 : decode cX7_firstError 11 = .ok (.aload_n 0, 1) := by decide +kernel
theorem dX7_firstError_12 : decode cX7_firstError 12 = .ok (.getfield 170, 3) := by decide +kernel
theorem dX7_firstError_15 : decode cX7_firstError 15 = .ok (.ifCond .eq 10, 3) := by decide +kernel
theorem dX7_firstError_18 : decode cX7_firstError 18 = .ok (.aload_n 0, 1) := by decide +kernel
theorem dX7_firstError_19 : decode cX7_firstError 19 = .ok (.getfield 174, 3) := by decide +kernel
theorem dX7_firstError_22 : decode cX7_firstError 22 = .ok (.goto 7, 3) := by decide +kernel
theorem dX7_firstError_25 : decode cX7_firstError 25 = .ok (.aload_n 0, 1) := by decide +kernel
theorem dX7_firstError_26 : decode cX7_firstError 26 = .ok (.getfield 167, 3) := by decide +kernel
theorem dX7_firstError_29 : decode cX7_firstError 29 = .ok (.ireturn, 1) := by decide +kernel
theorem lg_wsX7_plans_0 : GoodIn wsX7_plans wsX7_plans_r1 := goodIn_sub (fun _ h => (List.mem_cons_of_mem _ (List.mem_append_left _ (List.mem_append_left _ h)))) (by decide +kernel)
theorem lg_wsX7_plans_1 : GoodIn wsX7_plans wsX7_plans_r2 := goodIn_sub (fun _ h => (List.mem_cons_of_mem _ (List.mem_append_left _ (List.mem_append_right _ h)))) (by decide +kernel)
theorem ls_wsX7_plans_0 : GoodIn wsX7_plans wsX70 := goodIn_sub (fun _ h => (List.mem_cons_of_mem _ (List.mem_append_right _ h))) (by decide +kernel)
set_option maxRecDepth 20000 in
theorem ggX7_plans_X7_reads : GoodIn wsX7_plans wsX7_reads := (gi_cons (lg_wsX7_plans_0 _ (List.mem_of_getElem? (i := 6) rfl)) (goodIn_app (goodIn_app (gi_cons (lg_wsX7_plans_0 _ (List.mem_of_getElem? (i := 7) rfl)) (gi_cons (lg_wsX7_plans_0 _ (List.mem_of_getElem? (i := 0) rfl)) (gi_cons (lg_wsX7_plans_0 _ (List.mem_of_getElem? (i := 8) rfl)) (gi_cons (lg_wsX7_plans_0 _ (List.mem_of_getElem? (i := 1) rfl)) (gi_cons (lg_wsX7_plans_0 _ (List.mem_of_getElem? (i := 9) rfl)) (gi_cons (lg_wsX7_plans_0 _ (List.mem_of_getElem? (i := 10) rfl)) (gi_cons (lg_wsX7_plans_0 _ (List.mem_of_getElem? (i := 11) rfl)) (gi_cons (lg_wsX7_plans_0 _ (List.mem_of_getElem? (i := 5) rfl)) (gi_cons (lg_wsX7_plans_0 _ (List.mem_of_getElem? (i := 12) rfl)) (gi_cons (lg_wsX7_plans_0 _ (List.mem_of_getElem? (i := 13) rfl)) (gi_cons (lg_wsX7_plans_0 _ (List.mem_of_getElem? (i := 14) rfl)) (gi_cons (lg_wsX7_plans_0 _ (List.mem_of_getElem? (i := 15) rfl)) (gi_cons (lg_wsX7_plans_0 _ (List.mem_of_getElem? (i := 16) rfl)) (gi_cons (lg_wsX7_plans_0 _ (List.mem_of_getElem? (i := 17) rfl)) (gi_cons (lg_wsX7_plans_0 _ (List.mem_of_getElem? (i := 18) rfl)) (gi_cons (lg_wsX7_plans_0 _ (List.mem_of_getElem? (i := 19) rfl)) (gi_cons (lg_wsX7_plans_0 _ (List.mem_of_getElem? (i := 20) rfl)) (gi_cons (lg_wsX7_plans_0 _ (List.mem_of_getElem? (i := 21) rfl)) (gi_cons (lg_wsX7_plans_0 _ (List.mem_of_getElem? (i := 22) rfl)) (gi_cons (lg_wsX7_plans_0 _ (List.mem_of_getElem? (i := 23) rfl)) (gi_cons (lg_wsX7_plans_1 _ (List.mem_of_getElem? (i := 0) rfl)) (gi_cons (lg_wsX7_plans_1 _ (List.mem_of_getElem? (i := 1) rfl)) (gi_cons (lg_wsX7_plans_1 _ (List.mem_of_getElem? (i := 2) rfl)) (gi_cons (lg_wsX7_plans_1 _ (List.mem_of_getElem? (i := 3) rfl)) gi_nil)))))))))))))))))))))))) (gi_cons (lg_wsX7_plans_1 _ (List.mem_of_getElem? (i := 4) rfl)) (gi_cons (lg_wsX7_plans_1 _ (List.mem_of_getElem? (i := 5) rfl)) (gi_cons (lg_wsX7_plans_1 _ (List.mem_of_getElem? (i := 6) rfl)) (gi_cons (lg_wsX7_plans_1 _ (List.mem_of_getElem? (i := 7) rfl)) (gi_cons (lg_wsX7_plans_1 _ (List.mem_of_getElem? (i := 8) rfl)) (gi_cons (lg_wsX7_plans_1 _ (List.mem_of_getElem? (i := 9) rfl)) (gi_cons (lg_wsX7_plans_1 _ (List.mem_of_getElem? (i := 10) rfl)) gi_nil)))))))) ls_wsX7_plans_0))
set_option maxRecDepth 20000 in
theorem gX7_plans_X7_reads : GoodIn wsX7_plans (wsV RX7 187 RX7 yX7_reads wsX7_reads) := goodIn_app (gi_cons (lg_wsX7_plans_0 _ (List.mem_of_getElem? (i := 2) rfl)) (gi_cons (lg_wsX7_plans_0 _ (List.mem_of_getElem? (i := 3) rfl)) (gi_cons (lg_wsX7_plans_0 _ (List.mem_of_getElem? (i := 4) rfl)) (gi_cons (lg_wsX7_plans_0 _ (List.mem_of_getElem? (i := 5) rfl)) gi_nil)))) ggX7_plans_X7_reads
set_option maxRecDepth 20000 in
theorem ggX7_plans_X7_holds : GoodIn wsX7_plans wsX7_holds := (gi_cons (lg_wsX7_plans_1 _ (List.mem_of_getElem? (i := 14) rfl)) (goodIn_app (gi_cons (lg_wsX7_plans_1 _ (List.mem_of_getElem? (i := 15) rfl)) gi_nil) ls_wsX7_plans_0))
set_option maxRecDepth 20000 in
theorem gX7_plans_X7_holds : GoodIn wsX7_plans (wsV RX7 123 RX7 yX7_holds wsX7_holds) := goodIn_app (gi_cons (lg_wsX7_plans_1 _ (List.mem_of_getElem? (i := 11) rfl)) (gi_cons (lg_wsX7_plans_1 _ (List.mem_of_getElem? (i := 12) rfl)) (gi_cons (lg_wsX7_plans_1 _ (List.mem_of_getElem? (i := 13) rfl)) (gi_cons (lg_wsX7_plans_0 _ (List.mem_of_getElem? (i := 5) rfl)) gi_nil)))) ggX7_plans_X7_holds
set_option maxRecDepth 20000 in
theorem ggX7_plans_X7_save : GoodIn wsX7_plans wsX7_save := (gi_cons (lg_wsX7_plans_1 _ (List.mem_of_getElem? (i := 19) rfl)) (goodIn_app (gi_cons (lg_wsX7_plans_1 _ (List.mem_of_getElem? (i := 20) rfl)) (gi_cons (lg_wsX7_plans_1 _ (List.mem_of_getElem? (i := 21) rfl)) (gi_cons (lg_wsX7_plans_1 _ (List.mem_of_getElem? (i := 3) rfl)) gi_nil))) ls_wsX7_plans_0))
set_option maxRecDepth 20000 in
theorem gX7_plans_X7_save : GoodIn wsX7_plans (wsV RX7 117 RX7 yX7_save wsX7_save) := goodIn_app (gi_cons (lg_wsX7_plans_1 _ (List.mem_of_getElem? (i := 16) rfl)) (gi_cons (lg_wsX7_plans_1 _ (List.mem_of_getElem? (i := 17) rfl)) (gi_cons (lg_wsX7_plans_1 _ (List.mem_of_getElem? (i := 18) rfl)) (gi_cons (lg_wsX7_plans_0 _ (List.mem_of_getElem? (i := 5) rfl)) gi_nil)))) ggX7_plans_X7_save
theorem dX7_plans_0 : decode cX7_plans 0 = .ok (.aload_n 0, 1) := by decide +kernel
theorem dX7_plans_1 : decode cX7_plans 1 = .ok (.iconst 0, 1) := by decide +kernel
theorem dX7_plans_2 : decode cX7_plans 2 = .ok (.invokevirtual 187, 3) := by decide +kernel
theorem dX7_plans_5 : decode cX7_plans 5 = .ok (.istore_n 1, 1) := by decide +kernel
theorem dX7_plans_6 : decode cX7_plans 6 = .ok (.aload_n 0, 1) := by decide +kernel
theorem dX7_plans_7 : decode cX7_plans 7 = .ok (.aload_n 0, 1) := by decide +kernel
theorem dX7_plans_8 : decode cX7_plans 8 = .ok (.getfield 170, 3) := by decide +kernel
theorem dX7_plans_11 : decode cX7_plans 11 = .ok (.ifCond .eq 7, 3) := by decide +kernel
theorem dX7_plans_14 : decode cX7_plans 14 = .ok (.iconst 1, 1) := by decide +kernel
theorem dX7_plans_15 : decode cX7_plans 15 = .ok (.goto 4, 3) := by decide +kernel
theorem dX7_plans_18 : decode cX7_plans 18 = .ok (.iconst 0, 1) := by decide +kernel
theorem dX7_plans_19 : decode cX7_plans 19 = .ok (.invokevirtual 123, 3) := by decide +kernel
theorem dX7_plans_22 : decode cX7_plans 22 = .ok (.ifCond .ne 5, 3) := by decide +kernel
theorem dX7_plans_25 : decode cX7_plans 25 = .ok (.iconst 0, 1) := by decide +kernel
theorem dX7_plans_26 : decode cX7_plans 26 = .ok (.ireturn, 1) := by decide +kernel
theorem dX7_plans_27 : decode cX7_plans 27 = .ok (.aload_n 0, 1) := by decide +kernel
theorem dX7_plans_28 : decode cX7_plans 28 = .ok (.invokevirtual 117, 3) := by decide +kernel
theorem dX7_plans_31 : decode cX7_plans 31 = .ok (.aload_n 0, 1) := by decide +kernel
theorem dX7_plans_32 : decode cX7_plans 32 = .ok (.iconst 1, 1) := by decide +kernel
theorem dX7_plans_33 : decode cX7_plans 33 = .ok (.invokevirtual 187, 3) := by decide +kernel
theorem dX7_plans_36 : decode cX7_plans 36 = .ok (.istore_n 2, 1) := by decide +kernel
theorem dX7_plans_37 : decode cX7_plans 37 = .ok (.aload_n 0, 1) := by decide +kernel
theorem dX7_plans_38 : decode cX7_plans 38 = .ok (.iconst 0, 1) := by decide +kernel
theorem dX7_plans_39 : decode cX7_plans 39 = .ok (.putfield 167, 3) := by decide +kernel
theorem dX7_plans_42 : decode cX7_plans 42 = .ok (.iload_n 2, 1) := by decide +kernel
theorem dX7_plans_43 : decode cX7_plans 43 = .ok (.ireturn, 1) := by decide +kernel
theorem lg_wsX7_undo_0 : GoodIn wsX7_undo ([.fieldLink RX7 46 "MolesLawnModel" "savedMany" "I", .fieldLink RX7 7 "MolesLawnModel" "s" "[I", .fieldLink RX7 19 "MolesLawnModel" "saved" "[I", .methodLink RX7 123 yX7_holds, .instanceMethod yX7_holds, .selects RX7 yX7_holds yX7_holds, .initialized RX7, .code yX7_holds cX7_holds 2 (some .boolean), .fieldLink RX7 38 "MolesLawnModel" "thrown" "I"] : List Cond) := goodIn_sub (fun _ h => (List.mem_cons_of_mem _ (List.mem_append_left _ h))) (by decide +kernel)
theorem ls_wsX7_undo_0 : GoodIn wsX7_undo wsX70 := goodIn_sub (fun _ h => (List.mem_cons_of_mem _ (List.mem_append_right _ h))) (by decide +kernel)
set_option maxRecDepth 20000 in
theorem ggX7_undo_X7_holds : GoodIn wsX7_undo wsX7_holds := (gi_cons (lg_wsX7_undo_0 _ (List.mem_of_getElem? (i := 7) rfl)) (goodIn_app (gi_cons (lg_wsX7_undo_0 _ (List.mem_of_getElem? (i := 8) rfl)) gi_nil) ls_wsX7_undo_0))
set_option maxRecDepth 20000 in
theorem gX7_undo_X7_holds : GoodIn wsX7_undo (wsV RX7 123 RX7 yX7_holds wsX7_holds) := goodIn_app (gi_cons (lg_wsX7_undo_0 _ (List.mem_of_getElem? (i := 3) rfl)) (gi_cons (lg_wsX7_undo_0 _ (List.mem_of_getElem? (i := 4) rfl)) (gi_cons (lg_wsX7_undo_0 _ (List.mem_of_getElem? (i := 5) rfl)) (gi_cons (lg_wsX7_undo_0 _ (List.mem_of_getElem? (i := 6) rfl)) gi_nil)))) ggX7_undo_X7_holds
theorem dX7_undo_0 : decode cX7_undo 0 = .ok (.aload_n 0, 1) := by decide +kernel
theorem dX7_undo_1 : decode cX7_undo 1 = .ok (.aload_n 0, 1) := by decide +kernel
theorem dX7_undo_2 : decode cX7_undo 2 = .ok (.getfield 46, 3) := by decide +kernel
theorem dX7_undo_5 : decode cX7_undo 5 = .ok (.ifCond .le 7, 3) := by decide +kernel
theorem dX7_undo_8 : decode cX7_undo 8 = .ok (.iconst 0, 1) := by decide +kernel
theorem dX7_undo_9 : decode cX7_undo 9 = .ok (.goto 4, 3) := by decide +kernel
theorem dX7_undo_12 : decode cX7_undo 12 = .ok (.iconst 1, 1) := by decide +kernel
theorem dX7_undo_13 : decode cX7_undo 13 = .ok (.invokevirtual 123, 3) := by decide +kernel
theorem dX7_undo_16 : decode cX7_undo 16 = .ok (.ifCond .ne 5, 3) := by decide +kernel
theorem dX7_undo_19 : decode cX7_undo 19 = .ok (.iconst 0, 1) := by decide +kernel
theorem dX7_undo_20 : decode cX7_undo 20 = .ok (.ireturn, 1) := by decide +kernel
theorem dX7_undo_21 : decode cX7_undo 21 = .ok (.aload_n 0, 1) := by decide +kernel
theorem dX7_undo_22 : decode cX7_undo 22 = .ok (.dup, 1) := by decide +kernel
theorem dX7_undo_23 : decode cX7_undo 23 = .ok (.getfield 46, 3) := by decide +kernel
theorem dX7_undo_26 : decode cX7_undo 26 = .ok (.iconst 1, 1) := by decide +kernel
theorem dX7_undo_27 : decode cX7_undo 27 = .ok (.isub, 1) := by decide +kernel
theorem dX7_undo_28 : decode cX7_undo 28 = .ok (.putfield 46, 3) := by decide +kernel
theorem dX7_undo_31 : decode cX7_undo 31 = .ok (.iconst 0, 1) := by decide +kernel
theorem dX7_undo_32 : decode cX7_undo 32 = .ok (.istore_n 1, 1) := by decide +kernel
theorem dX7_undo_33 : decode cX7_undo 33 = .ok (.iload_n 1, 1) := by decide +kernel
theorem dX7_undo_34 : decode cX7_undo 34 = .ok (.sipush 1472, 3) := by decide +kernel
theorem dX7_undo_37 : decode cX7_undo 37 = .ok (.if_icmp .ge 30, 3) := by decide +kernel
theorem dX7_undo_40 : decode cX7_undo 40 = .ok (.aload_n 0, 1) := by decide +kernel
theorem dX7_undo_41 : decode cX7_undo 41 = .ok (.getfield 7, 3) := by decide +kernel
theorem dX7_undo_44 : decode cX7_undo 44 = .ok (.iload_n 1, 1) := by decide +kernel
theorem dX7_undo_45 : decode cX7_undo 45 = .ok (.aload_n 0, 1) := by decide +kernel
theorem dX7_undo_46 : decode cX7_undo 46 = .ok (.getfield 19, 3) := by decide +kernel
theorem dX7_undo_49 : decode cX7_undo 49 = .ok (.sipush 1472, 3) := by decide +kernel
theorem dX7_undo_52 : decode cX7_undo 52 = .ok (.aload_n 0, 1) := by decide +kernel
theorem dX7_undo_53 : decode cX7_undo 53 = .ok (.getfield 46, 3) := by decide +kernel
theorem dX7_undo_56 : decode cX7_undo 56 = .ok (.imul, 1) := by decide +kernel
theorem dX7_undo_57 : decode cX7_undo 57 = .ok (.iload_n 1, 1) := by decide +kernel
theorem dX7_undo_58 : decode cX7_undo 58 = .ok (.iadd, 1) := by decide +kernel
theorem dX7_undo_59 : decode cX7_undo 59 = .ok (.iaload, 1) := by decide +kernel
theorem dX7_undo_60 : decode cX7_undo 60 = .ok (.iastore, 1) := by decide +kernel
theorem dX7_undo_61 : decode cX7_undo 61 = .ok (.iinc 1 1, 3) := by decide +kernel
theorem dX7_undo_64 : decode cX7_undo 64 = .ok (.goto (-31), 3) := by decide +kernel
theorem dX7_undo_67 : decode cX7_undo 67 = .ok (.aload_n 0, 1) := by decide +kernel
theorem dX7_undo_68 : decode cX7_undo 68 = .ok (.getfield 46, 3) := by decide +kernel
theorem dX7_undo_71 : decode cX7_undo 71 = .ok (.ireturn, 1) := by decide +kernel
theorem lg_wsX7_keep_0 : GoodIn wsX7_keep ([.fieldLink RX7 38 "MolesLawnModel" "thrown" "I", .fieldLink RX7 16 "MolesLawnModel" "kept" "[I", .fieldLink RX7 7 "MolesLawnModel" "s" "[I", .fieldLink RX7 191 "MolesLawnModel" "isKept" "Z", .methodLink RX7 194 yX7_tunnels, .instanceMethod yX7_tunnels, .selects RX7 yX7_tunnels yX7_tunnels, .initialized RX7, .code yX7_tunnels cX7_tunnels 3 (some .int)] : List Cond) := goodIn_sub (fun _ h => (List.mem_cons_of_mem _ (List.mem_append_left _ h))) (by decide +kernel)
theorem ls_wsX7_keep_0 : GoodIn wsX7_keep wsX70 := goodIn_sub (fun _ h => (List.mem_cons_of_mem _ (List.mem_append_right _ h))) (by decide +kernel)
set_option maxRecDepth 20000 in
theorem ggX7_keep_X7_tunnels : GoodIn wsX7_keep wsX7_tunnels := (gi_cons (lg_wsX7_keep_0 _ (List.mem_of_getElem? (i := 8) rfl)) (goodIn_app (gi_cons (lg_wsX7_keep_0 _ (List.mem_of_getElem? (i := 2) rfl)) gi_nil) ls_wsX7_keep_0))
set_option maxRecDepth 20000 in
theorem gX7_keep_X7_tunnels : GoodIn wsX7_keep (wsV RX7 194 RX7 yX7_tunnels wsX7_tunnels) := goodIn_app (gi_cons (lg_wsX7_keep_0 _ (List.mem_of_getElem? (i := 4) rfl)) (gi_cons (lg_wsX7_keep_0 _ (List.mem_of_getElem? (i := 5) rfl)) (gi_cons (lg_wsX7_keep_0 _ (List.mem_of_getElem? (i := 6) rfl)) (gi_cons (lg_wsX7_keep_0 _ (List.mem_of_getElem? (i := 7) rfl)) gi_nil)))) ggX7_keep_X7_tunnels
theorem dX7_keep_0 : decode cX7_keep 0 = .ok (.aload_n 0, 1) := by decide +kernel
theorem dX7_keep_1 : decode cX7_keep 1 = .ok (.iconst 0, 1) := by decide +kernel
theorem dX7_keep_2 : decode cX7_keep 2 = .ok (.putfield 38, 3) := by decide +kernel
theorem dX7_keep_5 : decode cX7_keep 5 = .ok (.iconst 0, 1) := by decide +kernel
theorem dX7_keep_6 : decode cX7_keep 6 = .ok (.istore_n 1, 1) := by decide +kernel
theorem dX7_keep_7 : decode cX7_keep 7 = .ok (.iload_n 1, 1) := by decide +kernel
theorem dX7_keep_8 : decode cX7_keep 8 = .ok (.sipush 1472, 3) := by decide +kernel
theorem dX7_keep_11 : decode cX7_keep 11 = .ok (.if_icmp .ge 21, 3) := by decide +kernel
theorem dX7_keep_14 : decode cX7_keep 14 = .ok (.aload_n 0, 1) := by decide +kernel
theorem dX7_keep_15 : decode cX7_keep 15 = .ok (.getfield 16, 3) := by decide +kernel
theorem dX7_keep_18 : decode cX7_keep 18 = .ok (.iload_n 1, 1) := by decide +kernel
theorem dX7_keep_19 : decode cX7_keep 19 = .ok (.aload_n 0, 1) := by decide +kernel
theorem dX7_keep_20 : decode cX7_keep 20 = .ok (.getfield 7, 3) := by decide +kernel
theorem dX7_keep_23 : decode cX7_keep 23 = .ok (.iload_n 1, 1) := by decide +kernel
theorem dX7_keep_24 : decode cX7_keep 24 = .ok (.iaload, 1) := by decide +kernel
theorem dX7_keep_25 : decode cX7_keep 25 = .ok (.iastore, 1) := by decide +kernel
theorem dX7_keep_26 : decode cX7_keep 26 = .ok (.iinc 1 1, 3) := by decide +kernel
theorem dX7_keep_29 : decode cX7_keep 29 = .ok (.goto (-22), 3) := by decide +kernel
theorem dX7_keep_32 : decode cX7_keep 32 = .ok (.aload_n 0, 1) := by decide +kernel
theorem dX7_keep_33 : decode cX7_keep 33 = .ok (.iconst 1, 1) := by decide +kernel
theorem dX7_keep_34 : decode cX7_keep 34 = .ok (.putfield 191, 3) := by decide +kernel
theorem dX7_keep_37 : decode cX7_keep 37 = .ok (.aload_n 0, 1) := by decide +kernel
theorem dX7_keep_38 : decode cX7_keep 38 = .ok (.invokevirtual 194, 3) := by decide +kernel
theorem dX7_keep_41 : decode cX7_keep 41 = .ok (.ireturn, 1) := by decide +kernel
theorem lg_wsX7_restore_0 : GoodIn wsX7_restore ([.fieldLink RX7 191 "MolesLawnModel" "isKept" "Z", .fieldLink RX7 7 "MolesLawnModel" "s" "[I", .fieldLink RX7 16 "MolesLawnModel" "kept" "[I", .methodLink RX7 123 yX7_holds, .instanceMethod yX7_holds, .selects RX7 yX7_holds yX7_holds, .initialized RX7, .code yX7_holds cX7_holds 2 (some .boolean), .fieldLink RX7 38 "MolesLawnModel" "thrown" "I", .methodLink RX7 117 yX7_save, .instanceMethod yX7_save, .selects RX7 yX7_save yX7_save, .code yX7_save cX7_save 2 none, .fieldLink RX7 46 "MolesLawnModel" "savedMany" "I", .fieldLink RX7 19 "MolesLawnModel" "saved" "[I", .methodLink RX7 194 yX7_tunnels, .instanceMethod yX7_tunnels, .selects RX7 yX7_tunnels yX7_tunnels, .code yX7_tunnels cX7_tunnels 3 (some .int)] : List Cond) := goodIn_sub (fun _ h => (List.mem_cons_of_mem _ (List.mem_append_left _ h))) (by decide +kernel)
theorem ls_wsX7_restore_0 : GoodIn wsX7_restore wsX70 := goodIn_sub (fun _ h => (List.mem_cons_of_mem _ (List.mem_append_right _ h))) (by decide +kernel)
set_option maxRecDepth 20000 in
theorem ggX7_restore_X7_holds : GoodIn wsX7_restore wsX7_holds := (gi_cons (lg_wsX7_restore_0 _ (List.mem_of_getElem? (i := 7) rfl)) (goodIn_app (gi_cons (lg_wsX7_restore_0 _ (List.mem_of_getElem? (i := 8) rfl)) gi_nil) ls_wsX7_restore_0))
set_option maxRecDepth 20000 in
theorem gX7_restore_X7_holds : GoodIn wsX7_restore (wsV RX7 123 RX7 yX7_holds wsX7_holds) := goodIn_app (gi_cons (lg_wsX7_restore_0 _ (List.mem_of_getElem? (i := 3) rfl)) (gi_cons (lg_wsX7_restore_0 _ (List.mem_of_getElem? (i := 4) rfl)) (gi_cons (lg_wsX7_restore_0 _ (List.mem_of_getElem? (i := 5) rfl)) (gi_cons (lg_wsX7_restore_0 _ (List.mem_of_getElem? (i := 6) rfl)) gi_nil)))) ggX7_restore_X7_holds
set_option maxRecDepth 20000 in
theorem ggX7_restore_X7_save : GoodIn wsX7_restore wsX7_save := (gi_cons (lg_wsX7_restore_0 _ (List.mem_of_getElem? (i := 12) rfl)) (goodIn_app (gi_cons (lg_wsX7_restore_0 _ (List.mem_of_getElem? (i := 13) rfl)) (gi_cons (lg_wsX7_restore_0 _ (List.mem_of_getElem? (i := 14) rfl)) (gi_cons (lg_wsX7_restore_0 _ (List.mem_of_getElem? (i := 1) rfl)) gi_nil))) ls_wsX7_restore_0))
set_option maxRecDepth 20000 in
theorem gX7_restore_X7_save : GoodIn wsX7_restore (wsV RX7 117 RX7 yX7_save wsX7_save) := goodIn_app (gi_cons (lg_wsX7_restore_0 _ (List.mem_of_getElem? (i := 9) rfl)) (gi_cons (lg_wsX7_restore_0 _ (List.mem_of_getElem? (i := 10) rfl)) (gi_cons (lg_wsX7_restore_0 _ (List.mem_of_getElem? (i := 11) rfl)) (gi_cons (lg_wsX7_restore_0 _ (List.mem_of_getElem? (i := 6) rfl)) gi_nil)))) ggX7_restore_X7_save
set_option maxRecDepth 20000 in
theorem ggX7_restore_X7_tunnels : GoodIn wsX7_restore wsX7_tunnels := (gi_cons (lg_wsX7_restore_0 _ (List.mem_of_getElem? (i := 18) rfl)) (goodIn_app (gi_cons (lg_wsX7_restore_0 _ (List.mem_of_getElem? (i := 1) rfl)) gi_nil) ls_wsX7_restore_0))
set_option maxRecDepth 20000 in
theorem gX7_restore_X7_tunnels : GoodIn wsX7_restore (wsV RX7 194 RX7 yX7_tunnels wsX7_tunnels) := goodIn_app (gi_cons (lg_wsX7_restore_0 _ (List.mem_of_getElem? (i := 15) rfl)) (gi_cons (lg_wsX7_restore_0 _ (List.mem_of_getElem? (i := 16) rfl)) (gi_cons (lg_wsX7_restore_0 _ (List.mem_of_getElem? (i := 17) rfl)) (gi_cons (lg_wsX7_restore_0 _ (List.mem_of_getElem? (i := 6) rfl)) gi_nil)))) ggX7_restore_X7_tunnels
theorem dX7_restore_0 : decode cX7_restore 0 = .ok (.aload_n 0, 1) := by decide +kernel
theorem dX7_restore_1 : decode cX7_restore 1 = .ok (.aload_n 0, 1) := by decide +kernel
theorem dX7_restore_2 : decode cX7_restore 2 = .ok (.getfield 191, 3) := by decide +kernel
theorem dX7_restore_5 : decode cX7_restore 5 = .ok (.ifCond .eq 7, 3) := by decide +kernel
theorem dX7_restore_8 : decode cX7_restore 8 = .ok (.iconst 0, 1) := by decide +kernel
theorem dX7_restore_9 : decode cX7_restore 9 = .ok (.goto 4, 3) := by decide +kernel
theorem dX7_restore_12 : decode cX7_restore 12 = .ok (.iconst 1, 1) := by decide +kernel
theorem dX7_restore_13 : decode cX7_restore 13 = .ok (.invokevirtual 123, 3) := by decide +kernel
theorem dX7_restore_16 : decode cX7_restore 16 = .ok (.ifCond .ne 5, 3) := by decide +kernel
theorem dX7_restore_19 : decode cX7_restore 19 = .ok (.iconst 0, 1) := by decide +kernel
theorem dX7_restore_20 : decode cX7_restore 20 = .ok (.ireturn, 1) := by decide +kernel
theorem dX7_restore_21 : decode cX7_restore 21 = .ok (.aload_n 0, 1) := by decide +kernel
theorem dX7_restore_22 : decode cX7_restore 22 = .ok (.invokevirtual 117, 3) := by decide +kernel
theorem dX7_restore_25 : decode cX7_restore 25 = .ok (.iconst 0, 1) := by decide +kernel
theorem dX7_restore_26 : decode cX7_restore 26 = .ok (.istore_n 1, 1) := by decide +kernel
theorem dX7_restore_27 : decode cX7_restore 27 = .ok (.iload_n 1, 1) := by decide +kernel
theorem dX7_restore_28 : decode cX7_restore 28 = .ok (.sipush 1472, 3) := by decide +kernel
theorem dX7_restore_31 : decode cX7_restore 31 = .ok (.if_icmp .ge 21, 3) := by decide +kernel
theorem dX7_restore_34 : decode cX7_restore 34 = .ok (.aload_n 0, 1) := by decide +kernel
theorem dX7_restore_35 : decode cX7_restore 35 = .ok (.getfield 7, 3) := by decide +kernel
theorem dX7_restore_38 : decode cX7_restore 38 = .ok (.iload_n 1, 1) := by decide +kernel
theorem dX7_restore_39 : decode cX7_restore 39 = .ok (.aload_n 0, 1) := by decide +kernel
theorem dX7_restore_40 : decode cX7_restore 40 = .ok (.getfield 16, 3) := by decide +kernel
theorem dX7_restore_43 : decode cX7_restore 43 = .ok (.iload_n 1, 1) := by decide +kernel
theorem dX7_restore_44 : decode cX7_restore 44 = .ok (.iaload, 1) := by decide +kernel
theorem dX7_restore_45 : decode cX7_restore 45 = .ok (.iastore, 1) := by decide +kernel
theorem dX7_restore_46 : decode cX7_restore 46 = .ok (.iinc 1 1, 3) := by decide +kernel
theorem dX7_restore_49 : decode cX7_restore 49 = .ok (.goto (-22), 3) := by decide +kernel
theorem dX7_restore_52 : decode cX7_restore 52 = .ok (.aload_n 0, 1) := by decide +kernel
theorem dX7_restore_53 : decode cX7_restore 53 = .ok (.invokevirtual 194, 3) := by decide +kernel
theorem dX7_restore_56 : decode cX7_restore 56 = .ok (.ireturn, 1) := by decide +kernel
theorem lg_wsX7_layHollow_0 : GoodIn wsX7_layHollow ([.fieldLink RX7 28 "MolesLawnModel" "isHollow" "[Z", .fieldLink RX7 7 "MolesLawnModel" "s" "[I", .methodLink RX7 53 yX7_tuftAt, .instanceMethod yX7_tuftAt, .selects RX7 yX7_tuftAt yX7_tuftAt, .initialized RX7, .code yX7_tuftAt cX7_tuftAt 2 (some .int), .methodLink RX7 64 yX7_of, .static yX7_of, .code yX7_of cX7_of 2 (some .int)] : List Cond) := goodIn_sub (fun _ h => (List.mem_cons_of_mem _ (List.mem_append_left _ h))) (by decide +kernel)
theorem ls_wsX7_layHollow_0 : GoodIn wsX7_layHollow wsX70 := goodIn_sub (fun _ h => (List.mem_cons_of_mem _ (List.mem_append_right _ h))) (by decide +kernel)
set_option maxRecDepth 20000 in
theorem ggX7_layHollow_X7_tuftAt : GoodIn wsX7_layHollow wsX7_tuftAt := (gi_cons (lg_wsX7_layHollow_0 _ (List.mem_of_getElem? (i := 6) rfl)) (goodIn_app (gi_cons (lg_wsX7_layHollow_0 _ (List.mem_of_getElem? (i := 1) rfl)) gi_nil) ls_wsX7_layHollow_0))
set_option maxRecDepth 20000 in
theorem gX7_layHollow_X7_tuftAt : GoodIn wsX7_layHollow (wsV RX7 53 RX7 yX7_tuftAt wsX7_tuftAt) := goodIn_app (gi_cons (lg_wsX7_layHollow_0 _ (List.mem_of_getElem? (i := 2) rfl)) (gi_cons (lg_wsX7_layHollow_0 _ (List.mem_of_getElem? (i := 3) rfl)) (gi_cons (lg_wsX7_layHollow_0 _ (List.mem_of_getElem? (i := 4) rfl)) (gi_cons (lg_wsX7_layHollow_0 _ (List.mem_of_getElem? (i := 5) rfl)) gi_nil)))) ggX7_layHollow_X7_tuftAt
set_option maxRecDepth 20000 in
theorem ggX7_layHollow_X7_of : GoodIn wsX7_layHollow wsX7_of := (gi_cons (lg_wsX7_layHollow_0 _ (List.mem_of_getElem? (i := 9) rfl)) gi_nil)
set_option maxRecDepth 20000 in
theorem gX7_layHollow_X7_of : GoodIn wsX7_layHollow (va_wsS RX7 64 yX7_of wsX7_of) := goodIn_app (gi_cons (lg_wsX7_layHollow_0 _ (List.mem_of_getElem? (i := 7) rfl)) (gi_cons (lg_wsX7_layHollow_0 _ (List.mem_of_getElem? (i := 8) rfl)) (gi_cons (lg_wsX7_layHollow_0 _ (List.mem_of_getElem? (i := 5) rfl)) gi_nil))) ggX7_layHollow_X7_of
theorem dX7_layHollow_0 : decode cX7_layHollow 0 = .ok (.iconst 0, 1) := by decide +kernel
theorem dX7_layHollow_1 : decode cX7_layHollow 1 = .ok (.istore_n 1, 1) := by decide +kernel
theorem dX7_layHollow_2 : decode cX7_layHollow 2 = .ok (.iload_n 1, 1) := by decide +kernel
theorem dX7_layHollow_3 : decode cX7_layHollow 3 = .ok (.bipush 64, 2) := by decide +kernel
theorem dX7_layHollow_5 : decode cX7_layHollow 5 = .ok (.if_icmp .ge 16, 3) := by decide +kernel
theorem dX7_layHollow_8 : decode cX7_layHollow 8 = .ok (.aload_n 0, 1) := by decide +kernel
theorem dX7_layHollow_9 : decode cX7_layHollow 9 = .ok (.getfield 28, 3) := by decide +kernel
theorem dX7_layHollow_12 : decode cX7_layHollow 12 = .ok (.iload_n 1, 1) := by decide +kernel
theorem dX7_layHollow_13 : decode cX7_layHollow 13 = .ok (.iconst 0, 1) := by decide +kernel
theorem dX7_layHollow_14 : decode cX7_layHollow 14 = .ok (.bastore, 1) := by decide +kernel
theorem dX7_layHollow_15 : decode cX7_layHollow 15 = .ok (.iinc 1 1, 3) := by decide +kernel
theorem dX7_layHollow_18 : decode cX7_layHollow 18 = .ok (.goto (-16), 3) := by decide +kernel
theorem dX7_layHollow_21 : decode cX7_layHollow 21 = .ok (.iconst 0, 1) := by decide +kernel
theorem dX7_layHollow_22 : decode cX7_layHollow 22 = .ok (.istore_n 1, 1) := by decide +kernel
theorem dX7_layHollow_23 : decode cX7_layHollow 23 = .ok (.iload_n 1, 1) := by decide +kernel
theorem dX7_layHollow_24 : decode cX7_layHollow 24 = .ok (.aload_n 0, 1) := by decide +kernel
theorem dX7_layHollow_25 : decode cX7_layHollow 25 = .ok (.getfield 7, 3) := by decide +kernel
theorem dX7_layHollow_28 : decode cX7_layHollow 28 = .ok (.bipush 7, 2) := by decide +kernel
theorem dX7_layHollow_30 : decode cX7_layHollow 30 = .ok (.iaload, 1) := by decide +kernel
theorem dX7_layHollow_31 : decode cX7_layHollow 31 = .ok (.if_icmp .ge 20, 3) := by decide +kernel
theorem dX7_layHollow_34 : decode cX7_layHollow 34 = .ok (.aload_n 0, 1) := by decide +kernel
theorem dX7_layHollow_35 : decode cX7_layHollow 35 = .ok (.getfield 28, 3) := by decide +kernel
theorem dX7_layHollow_38 : decode cX7_layHollow 38 = .ok (.aload_n 0, 1) := by decide +kernel
theorem dX7_layHollow_39 : decode cX7_layHollow 39 = .ok (.iload_n 1, 1) := by decide +kernel
theorem dX7_layHollow_40 : decode cX7_layHollow 40 = .ok (.invokevirtual 53, 3) := by decide +kernel
theorem dX7_layHollow_43 : decode cX7_layHollow 43 = .ok (.iconst 1, 1) := by decide +kernel
theorem dX7_layHollow_44 : decode cX7_layHollow 44 = .ok (.bastore, 1) := by decide +kernel
theorem dX7_layHollow_45 : decode cX7_layHollow 45 = .ok (.iinc 1 1, 3) := by decide +kernel
theorem dX7_layHollow_48 : decode cX7_layHollow 48 = .ok (.goto (-25), 3) := by decide +kernel
theorem dX7_layHollow_51 : decode cX7_layHollow 51 = .ok (.iconst 0, 1) := by decide +kernel
theorem dX7_layHollow_52 : decode cX7_layHollow 52 = .ok (.istore_n 1, 1) := by decide +kernel
theorem dX7_layHollow_53 : decode cX7_layHollow 53 = .ok (.iload_n 1, 1) := by decide +kernel
theorem dX7_layHollow_54 : decode cX7_layHollow 54 = .ok (.aload_n 0, 1) := by decide +kernel
theorem dX7_layHollow_55 : decode cX7_layHollow 55 = .ok (.getfield 7, 3) := by decide +kernel
theorem dX7_layHollow_58 : decode cX7_layHollow 58 = .ok (.iconst 1, 1) := by decide +kernel
theorem dX7_layHollow_59 : decode cX7_layHollow 59 = .ok (.iaload, 1) := by decide +kernel
theorem dX7_layHollow_60 : decode cX7_layHollow 60 = .ok (.if_icmp .ge 51, 3) := by decide +kernel
theorem dX7_layHollow_63 : decode cX7_layHollow 63 = .ok (.iconst 0, 1) := by decide +kernel
theorem dX7_layHollow_64 : decode cX7_layHollow 64 = .ok (.istore_n 2, 1) := by decide +kernel
theorem dX7_layHollow_65 : decode cX7_layHollow 65 = .ok (.iload_n 2, 1) := by decide +kernel
theorem dX7_layHollow_66 : decode cX7_layHollow 66 = .ok (.aload_n 0, 1) := by decide +kernel
theorem dX7_layHollow_67 : decode cX7_layHollow 67 = .ok (.getfield 7, 3) := by decide +kernel
theorem dX7_layHollow_70 : decode cX7_layHollow 70 = .ok (.iload_n 1, 1) := by decide +kernel
theorem dX7_layHollow_71 : decode cX7_layHollow 71 = .ok (.bipush 23, 2) := by decide +kernel
theorem dX7_layHollow_73 : decode cX7_layHollow 73 = .ok (.invokestatic 64, 3) := by decide +kernel
theorem dX7_layHollow_76 : decode cX7_layHollow 76 = .ok (.iaload, 1) := by decide +kernel
theorem dX7_layHollow_77 : decode cX7_layHollow 77 = .ok (.if_icmp .ge 28, 3) := by decide +kernel
theorem dX7_layHollow_80 : decode cX7_layHollow 80 = .ok (.aload_n 0, 1) := by decide +kernel
theorem dX7_layHollow_81 : decode cX7_layHollow 81 = .ok (.getfield 28, 3) := by decide +kernel
theorem dX7_layHollow_84 : decode cX7_layHollow 84 = .ok (.aload_n 0, 1) := by decide +kernel
theorem dX7_layHollow_85 : decode cX7_layHollow 85 = .ok (.getfield 7, 3) := by decide +kernel
theorem dX7_layHollow_88 : decode cX7_layHollow 88 = .ok (.iload_n 1, 1) := by decide +kernel
theorem dX7_layHollow_89 : decode cX7_layHollow 89 = .ok (.bipush 24, 2) := by decide +kernel
theorem dX7_layHollow_91 : decode cX7_layHollow 91 = .ok (.iload_n 2, 1) := by decide +kernel
theorem dX7_layHollow_92 : decode cX7_layHollow 92 = .ok (.iadd, 1) := by decide +kernel
theorem dX7_layHollow_93 : decode cX7_layHollow 93 = .ok (.invokestatic 64, 3) := by decide +kernel
theorem dX7_layHollow_96 : decode cX7_layHollow 96 = .ok (.iaload, 1) := by decide +kernel
theorem dX7_layHollow_97 : decode cX7_layHollow 97 = .ok (.iconst 1, 1) := by decide +kernel
theorem dX7_layHollow_98 : decode cX7_layHollow 98 = .ok (.bastore, 1) := by decide +kernel
theorem dX7_layHollow_99 : decode cX7_layHollow 99 = .ok (.iinc 2 1, 3) := by decide +kernel
theorem dX7_layHollow_102 : decode cX7_layHollow 102 = .ok (.goto (-37), 3) := by decide +kernel
theorem dX7_layHollow_105 : decode cX7_layHollow 105 = .ok (.iinc 1 1, 3) := by decide +kernel
theorem dX7_layHollow_108 : decode cX7_layHollow 108 = .ok (.goto (-55), 3) := by decide +kernel
theorem dX7_layHollow_111 : decode cX7_layHollow 111 = .ok (.return_, 1) := by decide +kernel
theorem lg_wsX7_hollow_0 : GoodIn wsX7_hollow ([.fieldLink RX7 28 "MolesLawnModel" "isHollow" "[Z", .methodLink RX7 197 yX7_layHollow, .instanceMethod yX7_layHollow, .selects RX7 yX7_layHollow yX7_layHollow, .initialized RX7, .code yX7_layHollow cX7_layHollow 3 none, .fieldLink RX7 7 "MolesLawnModel" "s" "[I", .methodLink RX7 53 yX7_tuftAt, .instanceMethod yX7_tuftAt, .selects RX7 yX7_tuftAt yX7_tuftAt, .code yX7_tuftAt cX7_tuftAt 2 (some .int), .methodLink RX7 64 yX7_of, .static yX7_of, .code yX7_of cX7_of 2 (some .int)] : List Cond) := goodIn_sub (fun _ h => (List.mem_cons_of_mem _ (List.mem_append_left _ h))) (by decide +kernel)
theorem ls_wsX7_hollow_0 : GoodIn wsX7_hollow wsX70 := goodIn_sub (fun _ h => (List.mem_cons_of_mem _ (List.mem_append_right _ h))) (by decide +kernel)
set_option maxRecDepth 20000 in
theorem ggX7_hollow_X7_layHollow : GoodIn wsX7_hollow wsX7_layHollow := (gi_cons (lg_wsX7_hollow_0 _ (List.mem_of_getElem? (i := 5) rfl)) (goodIn_app (gi_cons (lg_wsX7_hollow_0 _ (List.mem_of_getElem? (i := 0) rfl)) (gi_cons (lg_wsX7_hollow_0 _ (List.mem_of_getElem? (i := 6) rfl)) (gi_cons (lg_wsX7_hollow_0 _ (List.mem_of_getElem? (i := 7) rfl)) (gi_cons (lg_wsX7_hollow_0 _ (List.mem_of_getElem? (i := 8) rfl)) (gi_cons (lg_wsX7_hollow_0 _ (List.mem_of_getElem? (i := 9) rfl)) (gi_cons (lg_wsX7_hollow_0 _ (List.mem_of_getElem? (i := 4) rfl)) (gi_cons (lg_wsX7_hollow_0 _ (List.mem_of_getElem? (i := 10) rfl)) (gi_cons (lg_wsX7_hollow_0 _ (List.mem_of_getElem? (i := 11) rfl)) (gi_cons (lg_wsX7_hollow_0 _ (List.mem_of_getElem? (i := 12) rfl)) (gi_cons (lg_wsX7_hollow_0 _ (List.mem_of_getElem? (i := 13) rfl)) gi_nil)))))))))) ls_wsX7_hollow_0))
set_option maxRecDepth 20000 in
theorem gX7_hollow_X7_layHollow : GoodIn wsX7_hollow (wsV RX7 197 RX7 yX7_layHollow wsX7_layHollow) := goodIn_app (gi_cons (lg_wsX7_hollow_0 _ (List.mem_of_getElem? (i := 1) rfl)) (gi_cons (lg_wsX7_hollow_0 _ (List.mem_of_getElem? (i := 2) rfl)) (gi_cons (lg_wsX7_hollow_0 _ (List.mem_of_getElem? (i := 3) rfl)) (gi_cons (lg_wsX7_hollow_0 _ (List.mem_of_getElem? (i := 4) rfl)) gi_nil)))) ggX7_hollow_X7_layHollow
theorem dX7_hollow_0 : decode cX7_hollow 0 = .ok (.aload_n 0, 1) := by decide +kernel
theorem dX7_hollow_1 : decode cX7_hollow 1 = .ok (.invokevirtual 197, 3) := by decide +kernel
theorem dX7_hollow_4 : decode cX7_hollow 4 = .ok (.iconst 0, 1) := by decide +kernel
theorem dX7_hollow_5 : decode cX7_hollow 5 = .ok (.istore_n 1, 1) := by decide +kernel
theorem dX7_hollow_6 : decode cX7_hollow 6 = .ok (.iconst 0, 1) := by decide +kernel
theorem dX7_hollow_7 : decode cX7_hollow 7 = .ok (.istore_n 2, 1) := by decide +kernel
theorem dX7_hollow_8 : decode cX7_hollow 8 = .ok (.iload_n 2, 1) := by decide +kernel
theorem dX7_hollow_9 : decode cX7_hollow 9 = .ok (.bipush 64, 2) := by decide +kernel
theorem dX7_hollow_11 : decode cX7_hollow 11 = .ok (.if_icmp .ge 26, 3) := by decide +kernel
theorem dX7_hollow_14 : decode cX7_hollow 14 = .ok (.iload_n 1, 1) := by decide +kernel
theorem dX7_hollow_15 : decode cX7_hollow 15 = .ok (.aload_n 0, 1) := by decide +kernel
theorem dX7_hollow_16 : decode cX7_hollow 16 = .ok (.getfield 28, 3) := by decide +kernel
theorem dX7_hollow_19 : decode cX7_hollow 19 = .ok (.iload_n 2, 1) := by decide +kernel
theorem dX7_hollow_20 : decode cX7_hollow 20 = .ok (.baload, 1) := by decide +kernel
theorem dX7_hollow_21 : decode cX7_hollow 21 = .ok (.ifCond .eq 7, 3) := by decide +kernel
theorem dX7_hollow_24 : decode cX7_hollow 24 = .ok (.iconst 1, 1) := by decide +kernel
theorem dX7_hollow_25 : decode cX7_hollow 25 = .ok (.goto 4, 3) := by decide +kernel
theorem dX7_hollow_28 : decode cX7_hollow 28 = .ok (.iconst 0, 1) := by decide +kernel
theorem dX7_hollow_29 : decode cX7_hollow 29 = .ok (.iadd, 1) := by decide +kernel
theorem dX7_hollow_30 : decode cX7_hollow 30 = .ok (.istore_n 1, 1) := by decide +kernel
theorem dX7_hollow_31 : decode cX7_hollow 31 = .ok (.iinc 2 1, 3) := by decide +kernel
theorem dX7_hollow_34 : decode cX7_hollow 34 = .ok (.goto (-26), 3) := by decide +kernel
theorem dX7_hollow_37 : decode cX7_hollow 37 = .ok (.iload_n 1, 1) := by decide +kernel
theorem dX7_hollow_38 : decode cX7_hollow 38 = .ok (.ireturn, 1) := by decide +kernel
theorem lg_wsX7_areBeside_0 : GoodIn wsX7_areBeside ([.methodLink RX7 42 yX7_in, .static yX7_in, .initialized RX7, .code yX7_in cX7_in 3 (some .boolean)] : List Cond) := goodIn_sub (fun _ h => (List.mem_cons_of_mem _ h)) (by decide +kernel)
set_option maxRecDepth 20000 in
theorem ggX7_areBeside_X7_in : GoodIn wsX7_areBeside wsX7_in := (gi_cons (lg_wsX7_areBeside_0 _ (List.mem_of_getElem? (i := 3) rfl)) gi_nil)
set_option maxRecDepth 20000 in
theorem gX7_areBeside_X7_in : GoodIn wsX7_areBeside (va_wsS RX7 42 yX7_in wsX7_in) := goodIn_app (gi_cons (lg_wsX7_areBeside_0 _ (List.mem_of_getElem? (i := 0) rfl)) (gi_cons (lg_wsX7_areBeside_0 _ (List.mem_of_getElem? (i := 1) rfl)) (gi_cons (lg_wsX7_areBeside_0 _ (List.mem_of_getElem? (i := 2) rfl)) gi_nil))) ggX7_areBeside_X7_in
theorem dX7_areBeside_0 : decode cX7_areBeside 0 = .ok (.iload_n 0, 1) := by decide +kernel
theorem dX7_areBeside_1 : decode cX7_areBeside 1 = .ok (.iload_n 1, 1) := by decide +kernel
theorem dX7_areBeside_2 : decode cX7_areBeside 2 = .ok (.if_icmp .eq 41, 3) := by decide +kernel
theorem dX7_areBeside_5 : decode cX7_areBeside 5 = .ok (.iload_n 0, 1) := by decide +kernel
theorem dX7_areBeside_6 : decode cX7_areBeside 6 = .ok (.bipush 8, 2) := by decide +kernel
theorem dX7_areBeside_8 : decode cX7_areBeside 8 = .ok (.idiv, 1) := by decide +kernel
theorem dX7_areBeside_9 : decode cX7_areBeside 9 = .ok (.iload_n 1, 1) := by decide +kernel
theorem dX7_areBeside_10 : decode cX7_areBeside 10 = .ok (.bipush 8, 2) := by decide +kernel
theorem dX7_areBeside_12 : decode cX7_areBeside 12 = .ok (.idiv, 1) := by decide +kernel
theorem dX7_areBeside_13 : decode cX7_areBeside 13 = .ok (.isub, 1) := by decide +kernel
theorem dX7_areBeside_14 : decode cX7_areBeside 14 = .ok (.iconst (-1), 1) := by decide +kernel
theorem dX7_areBeside_15 : decode cX7_areBeside 15 = .ok (.iconst 1, 1) := by decide +kernel
theorem dX7_areBeside_16 : decode cX7_areBeside 16 = .ok (.invokestatic 42, 3) := by decide +kernel
theorem dX7_areBeside_19 : decode cX7_areBeside 19 = .ok (.ifCond .eq 24, 3) := by decide +kernel
theorem dX7_areBeside_22 : decode cX7_areBeside 22 = .ok (.iload_n 0, 1) := by decide +kernel
theorem dX7_areBeside_23 : decode cX7_areBeside 23 = .ok (.bipush 8, 2) := by decide +kernel
theorem dX7_areBeside_25 : decode cX7_areBeside 25 = .ok (.irem, 1) := by decide +kernel
theorem dX7_areBeside_26 : decode cX7_areBeside 26 = .ok (.iload_n 1, 1) := by decide +kernel
theorem dX7_areBeside_27 : decode cX7_areBeside 27 = .ok (.bipush 8, 2) := by decide +kernel
theorem dX7_areBeside_29 : decode cX7_areBeside 29 = .ok (.irem, 1) := by decide +kernel
theorem dX7_areBeside_30 : decode cX7_areBeside 30 = .ok (.isub, 1) := by decide +kernel
theorem dX7_areBeside_31 : decode cX7_areBeside 31 = .ok (.iconst (-1), 1) := by decide +kernel
theorem dX7_areBeside_32 : decode cX7_areBeside 32 = .ok (.iconst 1, 1) := by decide +kernel
theorem dX7_areBeside_33 : decode cX7_areBeside 33 = .ok (.invokestatic 42, 3) := by decide +kernel
theorem dX7_areBeside_36 : decode cX7_areBeside 36 = .ok (.ifCond .eq 7, 3) := by decide +kernel
theorem dX7_areBeside_39 : decode cX7_areBeside 39 = .ok (.iconst 1, 1) := by decide +kernel
theorem dX7_areBeside_40 : decode cX7_areBeside 40 = .ok (.goto 4, 3) := by decide +kernel
theorem dX7_areBeside_43 : decode cX7_areBeside 43 = .ok (.iconst 0, 1) := by decide +kernel
theorem dX7_areBeside_44 : decode cX7_areBeside 44 = .ok (.ireturn, 1) := by decide +kernel
theorem lg_wsX7_numberOf_0 : GoodIn wsX7_numberOf ([.fieldLink RX7 28 "MolesLawnModel" "isHollow" "[Z", .methodLink RX7 200 yX7_areBeside, .static yX7_areBeside, .initialized RX7, .code yX7_areBeside cX7_areBeside 2 (some .boolean), .methodLink RX7 42 yX7_in, .static yX7_in, .code yX7_in cX7_in 3 (some .boolean)] : List Cond) := goodIn_sub (fun _ h => (List.mem_cons_of_mem _ (List.mem_append_left _ h))) (by decide +kernel)
theorem ls_wsX7_numberOf_0 : GoodIn wsX7_numberOf wsX70 := goodIn_sub (fun _ h => (List.mem_cons_of_mem _ (List.mem_append_right _ h))) (by decide +kernel)
set_option maxRecDepth 20000 in
theorem ggX7_numberOf_X7_areBeside : GoodIn wsX7_numberOf wsX7_areBeside := (gi_cons (lg_wsX7_numberOf_0 _ (List.mem_of_getElem? (i := 4) rfl)) (gi_cons (lg_wsX7_numberOf_0 _ (List.mem_of_getElem? (i := 5) rfl)) (gi_cons (lg_wsX7_numberOf_0 _ (List.mem_of_getElem? (i := 6) rfl)) (gi_cons (lg_wsX7_numberOf_0 _ (List.mem_of_getElem? (i := 3) rfl)) (gi_cons (lg_wsX7_numberOf_0 _ (List.mem_of_getElem? (i := 7) rfl)) gi_nil)))))
set_option maxRecDepth 20000 in
theorem gX7_numberOf_X7_areBeside : GoodIn wsX7_numberOf (va_wsS RX7 200 yX7_areBeside wsX7_areBeside) := goodIn_app (gi_cons (lg_wsX7_numberOf_0 _ (List.mem_of_getElem? (i := 1) rfl)) (gi_cons (lg_wsX7_numberOf_0 _ (List.mem_of_getElem? (i := 2) rfl)) (gi_cons (lg_wsX7_numberOf_0 _ (List.mem_of_getElem? (i := 3) rfl)) gi_nil))) ggX7_numberOf_X7_areBeside
theorem dX7_numberOf_0 : decode cX7_numberOf 0 = .ok (.iconst 0, 1) := by decide +kernel
theorem dX7_numberOf_1 : decode cX7_numberOf 1 = .ok (.istore_n 2, 1) := by decide +kernel
theorem dX7_numberOf_2 : decode cX7_numberOf 2 = .ok (.iconst 0, 1) := by decide +kernel
theorem dX7_numberOf_3 : decode cX7_numberOf 3 = .ok (.istore_n 3, 1) := by decide +kernel
theorem dX7_numberOf_4 : decode cX7_numberOf 4 = .ok (.iload_n 3, 1) := by decide +kernel
theorem dX7_numberOf_5 : decode cX7_numberOf 5 = .ok (.bipush 64, 2) := by decide +kernel
theorem dX7_numberOf_7 : decode cX7_numberOf 7 = .ok (.if_icmp .ge 34, 3) := by decide +kernel
theorem dX7_numberOf_10 : decode cX7_numberOf 10 = .ok (.iload_n 2, 1) := by decide +kernel
theorem dX7_numberOf_11 : decode cX7_numberOf 11 = .ok (.iload_n 1, 1) := by decide +kernel
theorem dX7_numberOf_12 : decode cX7_numberOf 12 = .ok (.iload_n 3, 1) := by decide +kernel
theorem dX7_numberOf_13 : decode cX7_numberOf 13 = .ok (.invokestatic 200, 3) := by decide +kernel
theorem dX7_numberOf_16 : decode cX7_numberOf 16 = .ok (.ifCond .eq 16, 3) := by decide +kernel
theorem dX7_numberOf_19 : decode cX7_numberOf 19 = .ok (.aload_n 0, 1) := by decide +kernel
theorem dX7_numberOf_20 : decode cX7_numberOf 20 = .ok (.getfield 28, 3) := by decide +kernel
theorem dX7_numberOf_23 : decode cX7_numberOf 23 = .ok (.iload_n 3, 1) := by decide +kernel
theorem dX7_numberOf_24 : decode cX7_numberOf 24 = .ok (.baload, 1) := by decide +kernel
theorem dX7_numberOf_25 : decode cX7_numberOf 25 = .ok (.ifCond .eq 7, 3) := by decide +kernel
theorem dX7_numberOf_28 : decode cX7_numberOf 28 = .ok (.iconst 1, 1) := by decide +kernel
theorem dX7_numberOf_29 : decode cX7_numberOf 29 = .ok (.goto 4, 3) := by decide +kernel
theorem dX7_numberOf_32 : decode cX7_numberOf 32 = .ok (.iconst 0, 1) := by decide +kernel
theorem dX7_numberOf_33 : decode cX7_numberOf 33 = .ok (.iadd, 1) := by decide +kernel
theorem dX7_numberOf_34 : decode cX7_numberOf 34 = .ok (.istore_n 2, 1) := by decide +kernel
theorem dX7_numberOf_35 : decode cX7_numberOf 35 = .ok (.iinc 3 1, 3) := by decide +kernel
theorem dX7_numberOf_38 : decode cX7_numberOf 38 = .ok (.goto (-34), 3) := by decide +kernel
theorem dX7_numberOf_41 : decode cX7_numberOf 41 = .ok (.iload_n 2, 1) := by decide +kernel
theorem dX7_numberOf_42 : decode cX7_numberOf 42 = .ok (.ireturn, 1) := by decide +kernel
theorem lg_wsX7_besideWith_0 : GoodIn wsX7_besideWith ([.fieldLink RX7 32 "MolesLawnModel" "sure" "[I", .methodLink RX7 200 yX7_areBeside, .static yX7_areBeside, .initialized RX7, .code yX7_areBeside cX7_areBeside 2 (some .boolean), .methodLink RX7 42 yX7_in, .static yX7_in, .code yX7_in cX7_in 3 (some .boolean)] : List Cond) := goodIn_sub (fun _ h => (List.mem_cons_of_mem _ (List.mem_append_left _ h))) (by decide +kernel)
theorem ls_wsX7_besideWith_0 : GoodIn wsX7_besideWith wsX70 := goodIn_sub (fun _ h => (List.mem_cons_of_mem _ (List.mem_append_right _ h))) (by decide +kernel)
set_option maxRecDepth 20000 in
theorem ggX7_besideWith_X7_areBeside : GoodIn wsX7_besideWith wsX7_areBeside := (gi_cons (lg_wsX7_besideWith_0 _ (List.mem_of_getElem? (i := 4) rfl)) (gi_cons (lg_wsX7_besideWith_0 _ (List.mem_of_getElem? (i := 5) rfl)) (gi_cons (lg_wsX7_besideWith_0 _ (List.mem_of_getElem? (i := 6) rfl)) (gi_cons (lg_wsX7_besideWith_0 _ (List.mem_of_getElem? (i := 3) rfl)) (gi_cons (lg_wsX7_besideWith_0 _ (List.mem_of_getElem? (i := 7) rfl)) gi_nil)))))
set_option maxRecDepth 20000 in
theorem gX7_besideWith_X7_areBeside : GoodIn wsX7_besideWith (va_wsS RX7 200 yX7_areBeside wsX7_areBeside) := goodIn_app (gi_cons (lg_wsX7_besideWith_0 _ (List.mem_of_getElem? (i := 1) rfl)) (gi_cons (lg_wsX7_besideWith_0 _ (List.mem_of_getElem? (i := 2) rfl)) (gi_cons (lg_wsX7_besideWith_0 _ (List.mem_of_getElem? (i := 3) rfl)) gi_nil))) ggX7_besideWith_X7_areBeside
theorem dX7_besideWith_0 : decode cX7_besideWith 0 = .ok (.iconst 0, 1) := by decide +kernel
theorem dX7_besideWith_1 : decode cX7_besideWith 1 = .ok (.istore_n 3, 1) := by decide +kernel
theorem dX7_besideWith_2 : decode cX7_besideWith 2 = .ok (.iconst 0, 1) := by decide +kernel
theorem dX7_besideWith_3 : decode cX7_besideWith 3 = .ok (.istore 4, 2) := by decide +kernel
theorem dX7_besideWith_5 : decode cX7_besideWith 5 = .ok (.iload 4, 2) := by decide +kernel
theorem dX7_besideWith_7 : decode cX7_besideWith 7 = .ok (.bipush 64, 2) := by decide +kernel
theorem dX7_besideWith_9 : decode cX7_besideWith 9 = .ok (.if_icmp .ge 37, 3) := by decide +kernel
theorem dX7_besideWith_12 : decode cX7_besideWith 12 = .ok (.iload_n 3, 1) := by decide +kernel
theorem dX7_besideWith_13 : decode cX7_besideWith 13 = .ok (.iload_n 1, 1) := by decide +kernel
theorem dX7_besideWith_14 : decode cX7_besideWith 14 = .ok (.iload 4, 2) := by decide +kernel
theorem dX7_besideWith_16 : decode cX7_besideWith 16 = .ok (.invokestatic 200, 3) := by decide +kernel
theorem dX7_besideWith_19 : decode cX7_besideWith 19 = .ok (.ifCond .eq 18, 3) := by decide +kernel
theorem dX7_besideWith_22 : decode cX7_besideWith 22 = .ok (.aload_n 0, 1) := by decide +kernel
theorem dX7_besideWith_23 : decode cX7_besideWith 23 = .ok (.getfield 32, 3) := by decide +kernel
theorem dX7_besideWith_26 : decode cX7_besideWith 26 = .ok (.iload 4, 2) := by decide +kernel
theorem dX7_besideWith_28 : decode cX7_besideWith 28 = .ok (.iaload, 1) := by decide +kernel
theorem dX7_besideWith_29 : decode cX7_besideWith 29 = .ok (.iload_n 2, 1) := by decide +kernel
theorem dX7_besideWith_30 : decode cX7_besideWith 30 = .ok (.if_icmp .ne 7, 3) := by decide +kernel
theorem dX7_besideWith_33 : decode cX7_besideWith 33 = .ok (.iconst 1, 1) := by decide +kernel
theorem dX7_besideWith_34 : decode cX7_besideWith 34 = .ok (.goto 4, 3) := by decide +kernel
theorem dX7_besideWith_37 : decode cX7_besideWith 37 = .ok (.iconst 0, 1) := by decide +kernel
theorem dX7_besideWith_38 : decode cX7_besideWith 38 = .ok (.iadd, 1) := by decide +kernel
theorem dX7_besideWith_39 : decode cX7_besideWith 39 = .ok (.istore_n 3, 1) := by decide +kernel
theorem dX7_besideWith_40 : decode cX7_besideWith 40 = .ok (.iinc 4 1, 3) := by decide +kernel
theorem dX7_besideWith_43 : decode cX7_besideWith 43 = .ok (.goto (-38), 3) := by decide +kernel
theorem dX7_besideWith_46 : decode cX7_besideWith 46 = .ok (.iload_n 3, 1) := by decide +kernel
theorem dX7_besideWith_47 : decode cX7_besideWith 47 = .ok (.ireturn, 1) := by decide +kernel
theorem lg_wsX7_finds_0 : GoodIn wsX7_finds ([.fieldLink RX7 32 "MolesLawnModel" "sure" "[I", .methodLink RX7 203 yX7_numberOf, .instanceMethod yX7_numberOf, .selects RX7 yX7_numberOf yX7_numberOf, .initialized RX7, .code yX7_numberOf cX7_numberOf 4 (some .int), .fieldLink RX7 28 "MolesLawnModel" "isHollow" "[Z", .methodLink RX7 200 yX7_areBeside, .static yX7_areBeside, .code yX7_areBeside cX7_areBeside 2 (some .boolean), .methodLink RX7 42 yX7_in, .static yX7_in, .code yX7_in cX7_in 3 (some .boolean), .methodLink RX7 206 yX7_besideWith, .instanceMethod yX7_besideWith, .selects RX7 yX7_besideWith yX7_besideWith, .code yX7_besideWith cX7_besideWith 5 (some .int)] : List Cond) := goodIn_sub (fun _ h => (List.mem_cons_of_mem _ (List.mem_append_left _ h))) (by decide +kernel)
theorem ls_wsX7_finds_0 : GoodIn wsX7_finds wsX70 := goodIn_sub (fun _ h => (List.mem_cons_of_mem _ (List.mem_append_right _ h))) (by decide +kernel)
set_option maxRecDepth 20000 in
theorem ggX7_finds_X7_numberOf : GoodIn wsX7_finds wsX7_numberOf := (gi_cons (lg_wsX7_finds_0 _ (List.mem_of_getElem? (i := 5) rfl)) (goodIn_app (gi_cons (lg_wsX7_finds_0 _ (List.mem_of_getElem? (i := 6) rfl)) (gi_cons (lg_wsX7_finds_0 _ (List.mem_of_getElem? (i := 7) rfl)) (gi_cons (lg_wsX7_finds_0 _ (List.mem_of_getElem? (i := 8) rfl)) (gi_cons (lg_wsX7_finds_0 _ (List.mem_of_getElem? (i := 4) rfl)) (gi_cons (lg_wsX7_finds_0 _ (List.mem_of_getElem? (i := 9) rfl)) (gi_cons (lg_wsX7_finds_0 _ (List.mem_of_getElem? (i := 10) rfl)) (gi_cons (lg_wsX7_finds_0 _ (List.mem_of_getElem? (i := 11) rfl)) (gi_cons (lg_wsX7_finds_0 _ (List.mem_of_getElem? (i := 12) rfl)) gi_nil)))))))) ls_wsX7_finds_0))
set_option maxRecDepth 20000 in
theorem gX7_finds_X7_numberOf : GoodIn wsX7_finds (wsV RX7 203 RX7 yX7_numberOf wsX7_numberOf) := goodIn_app (gi_cons (lg_wsX7_finds_0 _ (List.mem_of_getElem? (i := 1) rfl)) (gi_cons (lg_wsX7_finds_0 _ (List.mem_of_getElem? (i := 2) rfl)) (gi_cons (lg_wsX7_finds_0 _ (List.mem_of_getElem? (i := 3) rfl)) (gi_cons (lg_wsX7_finds_0 _ (List.mem_of_getElem? (i := 4) rfl)) gi_nil)))) ggX7_finds_X7_numberOf
set_option maxRecDepth 20000 in
theorem ggX7_finds_X7_besideWith : GoodIn wsX7_finds wsX7_besideWith := (gi_cons (lg_wsX7_finds_0 _ (List.mem_of_getElem? (i := 16) rfl)) (goodIn_app (gi_cons (lg_wsX7_finds_0 _ (List.mem_of_getElem? (i := 0) rfl)) (gi_cons (lg_wsX7_finds_0 _ (List.mem_of_getElem? (i := 7) rfl)) (gi_cons (lg_wsX7_finds_0 _ (List.mem_of_getElem? (i := 8) rfl)) (gi_cons (lg_wsX7_finds_0 _ (List.mem_of_getElem? (i := 4) rfl)) (gi_cons (lg_wsX7_finds_0 _ (List.mem_of_getElem? (i := 9) rfl)) (gi_cons (lg_wsX7_finds_0 _ (List.mem_of_getElem? (i := 10) rfl)) (gi_cons (lg_wsX7_finds_0 _ (List.mem_of_getElem? (i := 11) rfl)) (gi_cons (lg_wsX7_finds_0 _ (List.mem_of_getElem? (i := 12) rfl)) gi_nil)))))))) ls_wsX7_finds_0))
set_option maxRecDepth 20000 in
theorem gX7_finds_X7_besideWith : GoodIn wsX7_finds (wsV RX7 206 RX7 yX7_besideWith wsX7_besideWith) := goodIn_app (gi_cons (lg_wsX7_finds_0 _ (List.mem_of_getElem? (i := 13) rfl)) (gi_cons (lg_wsX7_finds_0 _ (List.mem_of_getElem? (i := 14) rfl)) (gi_cons (lg_wsX7_finds_0 _ (List.mem_of_getElem? (i := 15) rfl)) (gi_cons (lg_wsX7_finds_0 _ (List.mem_of_getElem? (i := 4) rfl)) gi_nil)))) ggX7_finds_X7_besideWith
set_option maxRecDepth 20000 in
theorem ggX7_finds_X7_areBeside : GoodIn wsX7_finds wsX7_areBeside := (gi_cons (lg_wsX7_finds_0 _ (List.mem_of_getElem? (i := 9) rfl)) (gi_cons (lg_wsX7_finds_0 _ (List.mem_of_getElem? (i := 10) rfl)) (gi_cons (lg_wsX7_finds_0 _ (List.mem_of_getElem? (i := 11) rfl)) (gi_cons (lg_wsX7_finds_0 _ (List.mem_of_getElem? (i := 4) rfl)) (gi_cons (lg_wsX7_finds_0 _ (List.mem_of_getElem? (i := 12) rfl)) gi_nil)))))
set_option maxRecDepth 20000 in
theorem gX7_finds_X7_areBeside : GoodIn wsX7_finds (va_wsS RX7 200 yX7_areBeside wsX7_areBeside) := goodIn_app (gi_cons (lg_wsX7_finds_0 _ (List.mem_of_getElem? (i := 7) rfl)) (gi_cons (lg_wsX7_finds_0 _ (List.mem_of_getElem? (i := 8) rfl)) (gi_cons (lg_wsX7_finds_0 _ (List.mem_of_getElem? (i := 4) rfl)) gi_nil))) ggX7_finds_X7_areBeside
theorem dX7_finds_0 : decode cX7_finds 0 = .ok (.aload_n 0, 1) := by decide +kernel
theorem dX7_finds_1 : decode cX7_finds 1 = .ok (.iload_n 1, 1) := by decide +kernel
theorem dX7_finds_2 : decode cX7_finds 2 = .ok (.invokevirtual 203, 3) := by decide +kernel
theorem dX7_finds_5 : decode cX7_finds 5 = .ok (.aload_n 0, 1) := by decide +kernel
theorem dX7_finds_6 : decode cX7_finds 6 = .ok (.iload_n 1, 1) := by decide +kernel
theorem dX7_finds_7 : decode cX7_finds 7 = .ok (.iconst 1, 1) := by decide +kernel
theorem dX7_finds_8 : decode cX7_finds 8 = .ok (.invokevirtual 206, 3) := by decide +kernel
theorem dX7_finds_11 : decode cX7_finds 11 = .ok (.isub, 1) := by decide +kernel
theorem dX7_finds_12 : decode cX7_finds 12 = .ok (.istore_n 2, 1) := by decide +kernel
theorem dX7_finds_13 : decode cX7_finds 13 = .ok (.aload_n 0, 1) := by decide +kernel
theorem dX7_finds_14 : decode cX7_finds 14 = .ok (.iload_n 1, 1) := by decide +kernel
theorem dX7_finds_15 : decode cX7_finds 15 = .ok (.iconst (-1), 1) := by decide +kernel
theorem dX7_finds_16 : decode cX7_finds 16 = .ok (.invokevirtual 206, 3) := by decide +kernel
theorem dX7_finds_19 : decode cX7_finds 19 = .ok (.istore_n 3, 1) := by decide +kernel
theorem dX7_finds_20 : decode cX7_finds 20 = .ok (.iload_n 3, 1) := by decide +kernel
theorem dX7_finds_21 : decode cX7_finds 21 = .ok (.ifCond .le 16, 3) := by decide +kernel
theorem dX7_finds_24 : decode cX7_finds 24 = .ok (.iload_n 2, 1) := by decide +kernel
theorem dX7_finds_25 : decode cX7_finds 25 = .ok (.ifCond .eq 8, 3) := by decide +kernel
theorem dX7_finds_28 : decode cX7_finds 28 = .ok (.iload_n 2, 1) := by decide +kernel
theorem dX7_finds_29 : decode cX7_finds 29 = .ok (.iload_n 3, 1) := by decide +kernel
theorem dX7_finds_30 : decode cX7_finds 30 = .ok (.if_icmp .ne 7, 3) := by decide +kernel
theorem dX7_finds_33 : decode cX7_finds 33 = .ok (.iconst 1, 1) := by decide +kernel
theorem dX7_finds_34 : decode cX7_finds 34 = .ok (.goto 4, 3) := by decide +kernel
theorem dX7_finds_37 : decode cX7_finds 37 = .ok (.iconst 0, 1) := by decide +kernel
theorem dX7_finds_38 : decode cX7_finds 38 = .ok (.istore 4, 2) := by decide +kernel
theorem dX7_finds_40 : decode cX7_finds 40 = .ok (.iconst 0, 1) := by decide +kernel
theorem dX7_finds_41 : decode cX7_finds 41 = .ok (.istore 5, 2) := by decide +kernel
theorem dX7_finds_43 : decode cX7_finds 43 = .ok (.iload 5, 2) := by decide +kernel
theorem dX7_finds_45 : decode cX7_finds 45 = .ok (.bipush 64, 2) := by decide +kernel
theorem dX7_finds_47 : decode cX7_finds 47 = .ok (.if_icmp .ge 60, 3) := by decide +kernel
theorem dX7_finds_50 : decode cX7_finds 50 = .ok (.iload 4, 2) := by decide +kernel
theorem dX7_finds_52 : decode cX7_finds 52 = .ok (.ifCond .eq 55, 3) := by decide +kernel
theorem dX7_finds_55 : decode cX7_finds 55 = .ok (.aload_n 0, 1) := by decide +kernel
theorem dX7_finds_56 : decode cX7_finds 56 = .ok (.getfield 32, 3) := by decide +kernel
theorem dX7_finds_59 : decode cX7_finds 59 = .ok (.iload 5, 2) := by decide +kernel
theorem dX7_finds_61 : decode cX7_finds 61 = .ok (.iload_n 1, 1) := by decide +kernel
theorem dX7_finds_62 : decode cX7_finds 62 = .ok (.iload 5, 2) := by decide +kernel
theorem dX7_finds_64 : decode cX7_finds 64 = .ok (.invokestatic 200, 3) := by decide +kernel
theorem dX7_finds_67 : decode cX7_finds 67 = .ok (.ifCond .eq 26, 3) := by decide +kernel
theorem dX7_finds_70 : decode cX7_finds 70 = .ok (.aload_n 0, 1) := by decide +kernel
theorem dX7_finds_71 : decode cX7_finds 71 = .ok (.getfield 32, 3) := by decide +kernel
theorem dX7_finds_74 : decode cX7_finds 74 = .ok (.iload 5, 2) := by decide +kernel
theorem dX7_finds_76 : decode cX7_finds 76 = .ok (.iaload, 1) := by decide +kernel
theorem dX7_finds_77 : decode cX7_finds 77 = .ok (.iconst (-1), 1) := by decide +kernel
theorem dX7_finds_78 : decode cX7_finds 78 = .ok (.if_icmp .ne 15, 3) := by decide +kernel
theorem dX7_finds_81 : decode cX7_finds 81 = .ok (.iload_n 2, 1) := by decide +kernel
theorem dX7_finds_82 : decode cX7_finds 82 = .ok (.ifCond .ne 7, 3) := by decide +kernel
theorem dX7_finds_85 : decode cX7_finds 85 = .ok (.iconst 0, 1) := by decide +kernel
theorem dX7_finds_86 : decode cX7_finds 86 = .ok (.goto 14, 3) := by decide +kernel
theorem dX7_finds_89 : decode cX7_finds 89 = .ok (.iconst 1, 1) := by decide +kernel
theorem dX7_finds_90 : decode cX7_finds 90 = .ok (.goto 10, 3) := by decide +kernel
theorem dX7_finds_93 : decode cX7_finds 93 = .ok (.aload_n 0, 1) := by decide +kernel
theorem dX7_finds_94 : decode cX7_finds 94 = .ok (.getfield 32, 3) := by decide +kernel
theorem dX7_finds_97 : decode cX7_finds 97 = .ok (.iload 5, 2) := by decide +kernel
theorem dX7_finds_99 : decode cX7_finds 99 = .ok (.iaload, 1) := by decide +kernel
theorem dX7_finds_100 : decode cX7_finds 100 = .ok (.iastore, 1) := by decide +kernel
theorem dX7_finds_101 : decode cX7_finds 101 = .ok (.iinc 5 1, 3) := by decide +kernel
theorem dX7_finds_104 : decode cX7_finds 104 = .ok (.goto (-61), 3) := by decide +kernel
theorem dX7_finds_107 : decode cX7_finds 107 = .ok (.iload 4, 2) := by decide +kernel
theorem dX7_finds_109 : decode cX7_finds 109 = .ok (.ireturn, 1) := by decide +kernel
theorem lg_wsX7_laySure_0 : GoodIn wsX7_laySure wsX7_laySure_r1 := goodIn_sub (fun _ h => (List.mem_cons_of_mem _ (List.mem_append_left _ (List.mem_append_left _ h)))) (by decide +kernel)
theorem lg_wsX7_laySure_1 : GoodIn wsX7_laySure wsX7_laySure_r2 := goodIn_sub (fun _ h => (List.mem_cons_of_mem _ (List.mem_append_left _ (List.mem_append_right _ h)))) (by decide +kernel)
theorem ls_wsX7_laySure_0 : GoodIn wsX7_laySure wsX70 := goodIn_sub (fun _ h => (List.mem_cons_of_mem _ (List.mem_append_right _ h))) (by decide +kernel)
set_option maxRecDepth 20000 in
theorem ggX7_laySure_X7_layHollow : GoodIn wsX7_laySure wsX7_layHollow := (gi_cons (lg_wsX7_laySure_0 _ (List.mem_of_getElem? (i := 7) rfl)) (goodIn_app (gi_cons (lg_wsX7_laySure_0 _ (List.mem_of_getElem? (i := 2) rfl)) (gi_cons (lg_wsX7_laySure_0 _ (List.mem_of_getElem? (i := 1) rfl)) (gi_cons (lg_wsX7_laySure_0 _ (List.mem_of_getElem? (i := 8) rfl)) (gi_cons (lg_wsX7_laySure_0 _ (List.mem_of_getElem? (i := 9) rfl)) (gi_cons (lg_wsX7_laySure_0 _ (List.mem_of_getElem? (i := 10) rfl)) (gi_cons (lg_wsX7_laySure_0 _ (List.mem_of_getElem? (i := 6) rfl)) (gi_cons (lg_wsX7_laySure_0 _ (List.mem_of_getElem? (i := 11) rfl)) (gi_cons (lg_wsX7_laySure_0 _ (List.mem_of_getElem? (i := 12) rfl)) (gi_cons (lg_wsX7_laySure_0 _ (List.mem_of_getElem? (i := 13) rfl)) (gi_cons (lg_wsX7_laySure_0 _ (List.mem_of_getElem? (i := 14) rfl)) gi_nil)))))))))) ls_wsX7_laySure_0))
set_option maxRecDepth 20000 in
theorem gX7_laySure_X7_layHollow : GoodIn wsX7_laySure (wsV RX7 197 RX7 yX7_layHollow wsX7_layHollow) := goodIn_app (gi_cons (lg_wsX7_laySure_0 _ (List.mem_of_getElem? (i := 3) rfl)) (gi_cons (lg_wsX7_laySure_0 _ (List.mem_of_getElem? (i := 4) rfl)) (gi_cons (lg_wsX7_laySure_0 _ (List.mem_of_getElem? (i := 5) rfl)) (gi_cons (lg_wsX7_laySure_0 _ (List.mem_of_getElem? (i := 6) rfl)) gi_nil)))) ggX7_laySure_X7_layHollow
set_option maxRecDepth 20000 in
theorem ggX7_laySure_X7_finds : GoodIn wsX7_laySure wsX7_finds := (gi_cons (lg_wsX7_laySure_0 _ (List.mem_of_getElem? (i := 18) rfl)) (goodIn_app (gi_cons (lg_wsX7_laySure_0 _ (List.mem_of_getElem? (i := 0) rfl)) (gi_cons (lg_wsX7_laySure_0 _ (List.mem_of_getElem? (i := 19) rfl)) (gi_cons (lg_wsX7_laySure_0 _ (List.mem_of_getElem? (i := 20) rfl)) (gi_cons (lg_wsX7_laySure_0 _ (List.mem_of_getElem? (i := 21) rfl)) (gi_cons (lg_wsX7_laySure_0 _ (List.mem_of_getElem? (i := 6) rfl)) (gi_cons (lg_wsX7_laySure_0 _ (List.mem_of_getElem? (i := 22) rfl)) (gi_cons (lg_wsX7_laySure_0 _ (List.mem_of_getElem? (i := 2) rfl)) (gi_cons (lg_wsX7_laySure_0 _ (List.mem_of_getElem? (i := 23) rfl)) (gi_cons (lg_wsX7_laySure_1 _ (List.mem_of_getElem? (i := 0) rfl)) (gi_cons (lg_wsX7_laySure_1 _ (List.mem_of_getElem? (i := 1) rfl)) (gi_cons (lg_wsX7_laySure_1 _ (List.mem_of_getElem? (i := 2) rfl)) (gi_cons (lg_wsX7_laySure_1 _ (List.mem_of_getElem? (i := 3) rfl)) (gi_cons (lg_wsX7_laySure_1 _ (List.mem_of_getElem? (i := 4) rfl)) (gi_cons (lg_wsX7_laySure_1 _ (List.mem_of_getElem? (i := 5) rfl)) (gi_cons (lg_wsX7_laySure_1 _ (List.mem_of_getElem? (i := 6) rfl)) (gi_cons (lg_wsX7_laySure_1 _ (List.mem_of_getElem? (i := 7) rfl)) (gi_cons (lg_wsX7_laySure_1 _ (List.mem_of_getElem? (i := 8) rfl)) gi_nil))))))))))))))))) ls_wsX7_laySure_0))
set_option maxRecDepth 20000 in
theorem gX7_laySure_X7_finds : GoodIn wsX7_laySure (wsV RX7 209 RX7 yX7_finds wsX7_finds) := goodIn_app (gi_cons (lg_wsX7_laySure_0 _ (List.mem_of_getElem? (i := 15) rfl)) (gi_cons (lg_wsX7_laySure_0 _ (List.mem_of_getElem? (i := 16) rfl)) (gi_cons (lg_wsX7_laySure_0 _ (List.mem_of_getElem? (i := 17) rfl)) (gi_cons (lg_wsX7_laySure_0 _ (List.mem_of_getElem? (i := 6) rfl)) gi_nil)))) ggX7_laySure_X7_finds
theorem dX7_laySure_0 : decode cX7_laySure 0 = .ok (.aload_n 0, 1) := by decide +kernel
theorem dX7_laySure_1 : decode cX7_laySure 1 = .ok (.invokevirtual 197, 3) := by decide +kernel
theorem dX7_laySure_4 : decode cX7_laySure 4 = .ok (.iconst 0, 1) := by decide +kernel
theorem dX7_laySure_5 : decode cX7_laySure 5 = .ok (.istore_n 1, 1) := by decide +kernel
theorem dX7_laySure_6 : decode cX7_laySure 6 = .ok (.iload_n 1, 1) := by decide +kernel
theorem dX7_laySure_7 : decode cX7_laySure 7 = .ok (.bipush 64, 2) := by decide +kernel
theorem dX7_laySure_9 : decode cX7_laySure 9 = .ok (.if_icmp .ge 46, 3) := by decide +kernel
theorem dX7_laySure_12 : decode cX7_laySure 12 = .ok (.aload_n 0, 1) := by decide +kernel
theorem dX7_laySure_13 : decode cX7_laySure 13 = .ok (.getfield 32, 3) := by decide +kernel
theorem dX7_laySure_16 : decode cX7_laySure 16 = .ok (.iload_n 1, 1) := by decide +kernel
theorem dX7_laySure_17 : decode cX7_laySure 17 = .ok (.aload_n 0, 1) := by decide +kernel
theorem dX7_laySure_18 : decode cX7_laySure 18 = .ok (.getfield 7, 3) := by decide +kernel
theorem dX7_laySure_21 : decode cX7_laySure 21 = .ok (.sipush 200, 3) := by decide +kernel
theorem dX7_laySure_24 : decode cX7_laySure 24 = .ok (.iload_n 1, 1) := by decide +kernel
theorem dX7_laySure_25 : decode cX7_laySure 25 = .ok (.iadd, 1) := by decide +kernel
theorem dX7_laySure_26 : decode cX7_laySure 26 = .ok (.iaload, 1) := by decide +kernel
theorem dX7_laySure_27 : decode cX7_laySure 27 = .ok (.ifCond .ne 7, 3) := by decide +kernel
theorem dX7_laySure_30 : decode cX7_laySure 30 = .ok (.iconst (-1), 1) := by decide +kernel
theorem dX7_laySure_31 : decode cX7_laySure 31 = .ok (.goto 17, 3) := by decide +kernel
theorem dX7_laySure_34 : decode cX7_laySure 34 = .ok (.aload_n 0, 1) := by decide +kernel
theorem dX7_laySure_35 : decode cX7_laySure 35 = .ok (.getfield 28, 3) := by decide +kernel
theorem dX7_laySure_38 : decode cX7_laySure 38 = .ok (.iload_n 1, 1) := by decide +kernel
theorem dX7_laySure_39 : decode cX7_laySure 39 = .ok (.baload, 1) := by decide +kernel
theorem dX7_laySure_40 : decode cX7_laySure 40 = .ok (.ifCond .eq 7, 3) := by decide +kernel
theorem dX7_laySure_43 : decode cX7_laySure 43 = .ok (.iconst 1, 1) := by decide +kernel
theorem dX7_laySure_44 : decode cX7_laySure 44 = .ok (.goto 4, 3) := by decide +kernel
theorem dX7_laySure_47 : decode cX7_laySure 47 = .ok (.iconst 0, 1) := by decide +kernel
theorem dX7_laySure_48 : decode cX7_laySure 48 = .ok (.iastore, 1) := by decide +kernel
theorem dX7_laySure_49 : decode cX7_laySure 49 = .ok (.iinc 1 1, 3) := by decide +kernel
theorem dX7_laySure_52 : decode cX7_laySure 52 = .ok (.goto (-46), 3) := by decide +kernel
theorem dX7_laySure_55 : decode cX7_laySure 55 = .ok (.iconst 1, 1) := by decide +kernel
theorem dX7_laySure_56 : decode cX7_laySure 56 = .ok (.istore_n 1, 1) := by decide +kernel
theorem dX7_laySure_57 : decode cX7_laySure 57 = .ok (.iload_n 1, 1) := by decide +kernel
theorem dX7_laySure_58 : decode cX7_laySure 58 = .ok (.ifCond .eq 64, 3) := by decide +kernel
theorem dX7_laySure_61 : decode cX7_laySure 61 = .ok (.iconst 0, 1) := by decide +kernel
theorem dX7_laySure_62 : decode cX7_laySure 62 = .ok (.istore_n 1, 1) := by decide +kernel
theorem dX7_laySure_63 : decode cX7_laySure 63 = .ok (.iconst 0, 1) := by decide +kernel
theorem dX7_laySure_64 : decode cX7_laySure 64 = .ok (.istore_n 2, 1) := by decide +kernel
theorem dX7_laySure_65 : decode cX7_laySure 65 = .ok (.iload_n 2, 1) := by decide +kernel
theorem dX7_laySure_66 : decode cX7_laySure 66 = .ok (.bipush 64, 2) := by decide +kernel
theorem dX7_laySure_68 : decode cX7_laySure 68 = .ok (.if_icmp .ge 51, 3) := by decide +kernel
theorem dX7_laySure_71 : decode cX7_laySure 71 = .ok (.aload_n 0, 1) := by decide +kernel
theorem dX7_laySure_72 : decode cX7_laySure 72 = .ok (.getfield 7, 3) := by decide +kernel
theorem dX7_laySure_75 : decode cX7_laySure 75 = .ok (.sipush 200, 3) := by decide +kernel
theorem dX7_laySure_78 : decode cX7_laySure 78 = .ok (.iload_n 2, 1) := by decide +kernel
theorem dX7_laySure_79 : decode cX7_laySure 79 = .ok (.iadd, 1) := by decide +kernel
theorem dX7_laySure_80 : decode cX7_laySure 80 = .ok (.iaload, 1) := by decide +kernel
theorem dX7_laySure_81 : decode cX7_laySure 81 = .ok (.iconst 1, 1) := by decide +kernel
theorem dX7_laySure_82 : decode cX7_laySure 82 = .ok (.if_icmp .ne 15, 3) := by decide +kernel
theorem dX7_laySure_85 : decode cX7_laySure 85 = .ok (.aload_n 0, 1) := by decide +kernel
theorem dX7_laySure_86 : decode cX7_laySure 86 = .ok (.iload_n 2, 1) := by decide +kernel
theorem dX7_laySure_87 : decode cX7_laySure 87 = .ok (.invokevirtual 209, 3) := by decide +kernel
theorem dX7_laySure_90 : decode cX7_laySure 90 = .ok (.ifCond .eq 7, 3) := by decide +kernel
theorem dX7_laySure_93 : decode cX7_laySure 93 = .ok (.iconst 1, 1) := by decide +kernel
theorem dX7_laySure_94 : decode cX7_laySure 94 = .ok (.goto 4, 3) := by decide +kernel
theorem dX7_laySure_97 : decode cX7_laySure 97 = .ok (.iconst 0, 1) := by decide +kernel
theorem dX7_laySure_98 : decode cX7_laySure 98 = .ok (.istore_n 3, 1) := by decide +kernel
theorem dX7_laySure_99 : decode cX7_laySure 99 = .ok (.iload_n 1, 1) := by decide +kernel
theorem dX7_laySure_100 : decode cX7_laySure 100 = .ok (.ifCond .ne 7, 3) := by decide +kernel
theorem dX7_laySure_103 : decode cX7_laySure 103 = .ok (.iload_n 3, 1) := by decide +kernel
theorem dX7_laySure_104 : decode cX7_laySure 104 = .ok (.ifCond .eq 7, 3) := by decide +kernel
theorem dX7_laySure_107 : decode cX7_laySure 107 = .ok (.iconst 1, 1) := by decide +kernel
theorem dX7_laySure_108 : decode cX7_laySure 108 = .ok (.goto 4, 3) := by decide +kernel
theorem dX7_laySure_111 : decode cX7_laySure 111 = .ok (.iconst 0, 1) := by decide +kernel
theorem dX7_laySure_112 : decode cX7_laySure 112 = .ok (.istore_n 1, 1) := by decide +kernel
theorem dX7_laySure_113 : decode cX7_laySure 113 = .ok (.iinc 2 1, 3) := by decide +kernel
theorem dX7_laySure_116 : decode cX7_laySure 116 = .ok (.goto (-51), 3) := by decide +kernel
theorem dX7_laySure_119 : decode cX7_laySure 119 = .ok (.goto (-62), 3) := by decide +kernel
theorem dX7_laySure_122 : decode cX7_laySure 122 = .ok (.return_, 1) := by decide +kernel
theorem lg_wsX7_tunnelsWith_0 : GoodIn wsX7_tunnelsWith ([.fieldLink RX7 7 "MolesLawnModel" "s" "[I", .methodLink RX7 49 yX7_endFrom, .instanceMethod yX7_endFrom, .selects RX7 yX7_endFrom yX7_endFrom, .initialized RX7, .code yX7_endFrom cX7_endFrom 3 (some .int), .methodLink RX7 56 yX7_find, .instanceMethod yX7_find, .selects RX7 yX7_find yX7_find, .code yX7_find cX7_find 7 (some .int), .methodLink RX7 53 yX7_tuftAt, .instanceMethod yX7_tuftAt, .selects RX7 yX7_tuftAt yX7_tuftAt, .code yX7_tuftAt cX7_tuftAt 2 (some .int)] : List Cond) := goodIn_sub (fun _ h => (List.mem_cons_of_mem _ (List.mem_append_left _ h))) (by decide +kernel)
theorem ls_wsX7_tunnelsWith_0 : GoodIn wsX7_tunnelsWith wsX70 := goodIn_sub (fun _ h => (List.mem_cons_of_mem _ (List.mem_append_right _ h))) (by decide +kernel)
set_option maxRecDepth 20000 in
theorem ggX7_tunnelsWith_X7_endFrom : GoodIn wsX7_tunnelsWith wsX7_endFrom := (gi_cons (lg_wsX7_tunnelsWith_0 _ (List.mem_of_getElem? (i := 5) rfl)) (goodIn_app (gi_cons (lg_wsX7_tunnelsWith_0 _ (List.mem_of_getElem? (i := 0) rfl)) gi_nil) ls_wsX7_tunnelsWith_0))
set_option maxRecDepth 20000 in
theorem gX7_tunnelsWith_X7_endFrom : GoodIn wsX7_tunnelsWith (wsV RX7 49 RX7 yX7_endFrom wsX7_endFrom) := goodIn_app (gi_cons (lg_wsX7_tunnelsWith_0 _ (List.mem_of_getElem? (i := 1) rfl)) (gi_cons (lg_wsX7_tunnelsWith_0 _ (List.mem_of_getElem? (i := 2) rfl)) (gi_cons (lg_wsX7_tunnelsWith_0 _ (List.mem_of_getElem? (i := 3) rfl)) (gi_cons (lg_wsX7_tunnelsWith_0 _ (List.mem_of_getElem? (i := 4) rfl)) gi_nil)))) ggX7_tunnelsWith_X7_endFrom
set_option maxRecDepth 20000 in
theorem ggX7_tunnelsWith_X7_find : GoodIn wsX7_tunnelsWith wsX7_find := (gi_cons (lg_wsX7_tunnelsWith_0 _ (List.mem_of_getElem? (i := 9) rfl)) (goodIn_app (gi_cons (lg_wsX7_tunnelsWith_0 _ (List.mem_of_getElem? (i := 10) rfl)) (gi_cons (lg_wsX7_tunnelsWith_0 _ (List.mem_of_getElem? (i := 11) rfl)) (gi_cons (lg_wsX7_tunnelsWith_0 _ (List.mem_of_getElem? (i := 12) rfl)) (gi_cons (lg_wsX7_tunnelsWith_0 _ (List.mem_of_getElem? (i := 4) rfl)) (gi_cons (lg_wsX7_tunnelsWith_0 _ (List.mem_of_getElem? (i := 13) rfl)) (gi_cons (lg_wsX7_tunnelsWith_0 _ (List.mem_of_getElem? (i := 0) rfl)) gi_nil)))))) ls_wsX7_tunnelsWith_0))
set_option maxRecDepth 20000 in
theorem gX7_tunnelsWith_X7_find : GoodIn wsX7_tunnelsWith (wsV RX7 56 RX7 yX7_find wsX7_find) := goodIn_app (gi_cons (lg_wsX7_tunnelsWith_0 _ (List.mem_of_getElem? (i := 6) rfl)) (gi_cons (lg_wsX7_tunnelsWith_0 _ (List.mem_of_getElem? (i := 7) rfl)) (gi_cons (lg_wsX7_tunnelsWith_0 _ (List.mem_of_getElem? (i := 8) rfl)) (gi_cons (lg_wsX7_tunnelsWith_0 _ (List.mem_of_getElem? (i := 4) rfl)) gi_nil)))) ggX7_tunnelsWith_X7_find
theorem dX7_tunnelsWith_0 : decode cX7_tunnelsWith 0 = .ok (.iconst 0, 1) := by decide +kernel
theorem dX7_tunnelsWith_1 : decode cX7_tunnelsWith 1 = .ok (.istore_n 2, 1) := by decide +kernel
theorem dX7_tunnelsWith_2 : decode cX7_tunnelsWith 2 = .ok (.iconst 0, 1) := by decide +kernel
theorem dX7_tunnelsWith_3 : decode cX7_tunnelsWith 3 = .ok (.istore_n 3, 1) := by decide +kernel
theorem dX7_tunnelsWith_4 : decode cX7_tunnelsWith 4 = .ok (.iload_n 3, 1) := by decide +kernel
theorem dX7_tunnelsWith_5 : decode cX7_tunnelsWith 5 = .ok (.aload_n 0, 1) := by decide +kernel
theorem dX7_tunnelsWith_6 : decode cX7_tunnelsWith 6 = .ok (.getfield 7, 3) := by decide +kernel
theorem dX7_tunnelsWith_9 : decode cX7_tunnelsWith 9 = .ok (.bipush 7, 2) := by decide +kernel
theorem dX7_tunnelsWith_11 : decode cX7_tunnelsWith 11 = .ok (.iaload, 1) := by decide +kernel
theorem dX7_tunnelsWith_12 : decode cX7_tunnelsWith 12 = .ok (.if_icmp .ge 38, 3) := by decide +kernel
theorem dX7_tunnelsWith_15 : decode cX7_tunnelsWith 15 = .ok (.iload_n 2, 1) := by decide +kernel
theorem dX7_tunnelsWith_16 : decode cX7_tunnelsWith 16 = .ok (.aload_n 0, 1) := by decide +kernel
theorem dX7_tunnelsWith_17 : decode cX7_tunnelsWith 17 = .ok (.iload_n 1, 1) := by decide +kernel
theorem dX7_tunnelsWith_18 : decode cX7_tunnelsWith 18 = .ok (.iload_n 3, 1) := by decide +kernel
theorem dX7_tunnelsWith_19 : decode cX7_tunnelsWith 19 = .ok (.aload_n 0, 1) := by decide +kernel
theorem dX7_tunnelsWith_20 : decode cX7_tunnelsWith 20 = .ok (.iload_n 3, 1) := by decide +kernel
theorem dX7_tunnelsWith_21 : decode cX7_tunnelsWith 21 = .ok (.invokevirtual 49, 3) := by decide +kernel
theorem dX7_tunnelsWith_24 : decode cX7_tunnelsWith 24 = .ok (.iconst 0, 1) := by decide +kernel
theorem dX7_tunnelsWith_25 : decode cX7_tunnelsWith 25 = .ok (.invokevirtual 56, 3) := by decide +kernel
theorem dX7_tunnelsWith_28 : decode cX7_tunnelsWith 28 = .ok (.iconst (-1), 1) := by decide +kernel
theorem dX7_tunnelsWith_29 : decode cX7_tunnelsWith 29 = .ok (.if_icmp .ne 7, 3) := by decide +kernel
theorem dX7_tunnelsWith_32 : decode cX7_tunnelsWith 32 = .ok (.iconst 0, 1) := by decide +kernel
theorem dX7_tunnelsWith_33 : decode cX7_tunnelsWith 33 = .ok (.goto 4, 3) := by decide +kernel
theorem dX7_tunnelsWith_36 : decode cX7_tunnelsWith 36 = .ok (.iconst 1, 1) := by decide +kernel
theorem dX7_tunnelsWith_37 : decode cX7_tunnelsWith 37 = .ok (.iadd, 1) := by decide +kernel
theorem dX7_tunnelsWith_38 : decode cX7_tunnelsWith 38 = .ok (.istore_n 2, 1) := by decide +kernel
theorem dX7_tunnelsWith_39 : decode cX7_tunnelsWith 39 = .ok (.aload_n 0, 1) := by decide +kernel
theorem dX7_tunnelsWith_40 : decode cX7_tunnelsWith 40 = .ok (.iload_n 3, 1) := by decide +kernel
theorem dX7_tunnelsWith_41 : decode cX7_tunnelsWith 41 = .ok (.invokevirtual 49, 3) := by decide +kernel
theorem dX7_tunnelsWith_44 : decode cX7_tunnelsWith 44 = .ok (.iconst 1, 1) := by decide +kernel
theorem dX7_tunnelsWith_45 : decode cX7_tunnelsWith 45 = .ok (.iadd, 1) := by decide +kernel
theorem dX7_tunnelsWith_46 : decode cX7_tunnelsWith 46 = .ok (.istore_n 3, 1) := by decide +kernel
theorem dX7_tunnelsWith_47 : decode cX7_tunnelsWith 47 = .ok (.goto (-43), 3) := by decide +kernel
theorem dX7_tunnelsWith_50 : decode cX7_tunnelsWith 50 = .ok (.iload_n 2, 1) := by decide +kernel
theorem dX7_tunnelsWith_51 : decode cX7_tunnelsWith 51 = .ok (.ireturn, 1) := by decide +kernel
theorem lg_wsX7_molesAt_0 : GoodIn wsX7_molesAt ([.fieldLink RX7 7 "MolesLawnModel" "s" "[I", .methodLink RX7 64 yX7_of, .static yX7_of, .initialized RX7, .code yX7_of cX7_of 2 (some .int)] : List Cond) := goodIn_sub (fun _ h => (List.mem_cons_of_mem _ (List.mem_append_left _ h))) (by decide +kernel)
theorem ls_wsX7_molesAt_0 : GoodIn wsX7_molesAt wsX70 := goodIn_sub (fun _ h => (List.mem_cons_of_mem _ (List.mem_append_right _ h))) (by decide +kernel)
set_option maxRecDepth 20000 in
theorem ggX7_molesAt_X7_of : GoodIn wsX7_molesAt wsX7_of := (gi_cons (lg_wsX7_molesAt_0 _ (List.mem_of_getElem? (i := 4) rfl)) gi_nil)
set_option maxRecDepth 20000 in
theorem gX7_molesAt_X7_of : GoodIn wsX7_molesAt (va_wsS RX7 64 yX7_of wsX7_of) := goodIn_app (gi_cons (lg_wsX7_molesAt_0 _ (List.mem_of_getElem? (i := 1) rfl)) (gi_cons (lg_wsX7_molesAt_0 _ (List.mem_of_getElem? (i := 2) rfl)) (gi_cons (lg_wsX7_molesAt_0 _ (List.mem_of_getElem? (i := 3) rfl)) gi_nil))) ggX7_molesAt_X7_of
theorem dX7_molesAt_0 : decode cX7_molesAt 0 = .ok (.iconst 0, 1) := by decide +kernel
theorem dX7_molesAt_1 : decode cX7_molesAt 1 = .ok (.istore_n 2, 1) := by decide +kernel
theorem dX7_molesAt_2 : decode cX7_molesAt 2 = .ok (.iconst 0, 1) := by decide +kernel
theorem dX7_molesAt_3 : decode cX7_molesAt 3 = .ok (.istore_n 3, 1) := by decide +kernel
theorem dX7_molesAt_4 : decode cX7_molesAt 4 = .ok (.iload_n 3, 1) := by decide +kernel
theorem dX7_molesAt_5 : decode cX7_molesAt 5 = .ok (.aload_n 0, 1) := by decide +kernel
theorem dX7_molesAt_6 : decode cX7_molesAt 6 = .ok (.getfield 7, 3) := by decide +kernel
theorem dX7_molesAt_9 : decode cX7_molesAt 9 = .ok (.iconst 1, 1) := by decide +kernel
theorem dX7_molesAt_10 : decode cX7_molesAt 10 = .ok (.iaload, 1) := by decide +kernel
theorem dX7_molesAt_11 : decode cX7_molesAt 11 = .ok (.if_icmp .ge 31, 3) := by decide +kernel
theorem dX7_molesAt_14 : decode cX7_molesAt 14 = .ok (.iload_n 2, 1) := by decide +kernel
theorem dX7_molesAt_15 : decode cX7_molesAt 15 = .ok (.aload_n 0, 1) := by decide +kernel
theorem dX7_molesAt_16 : decode cX7_molesAt 16 = .ok (.getfield 7, 3) := by decide +kernel
theorem dX7_molesAt_19 : decode cX7_molesAt 19 = .ok (.iload_n 3, 1) := by decide +kernel
theorem dX7_molesAt_20 : decode cX7_molesAt 20 = .ok (.iconst 0, 1) := by decide +kernel
theorem dX7_molesAt_21 : decode cX7_molesAt 21 = .ok (.invokestatic 64, 3) := by decide +kernel
theorem dX7_molesAt_24 : decode cX7_molesAt 24 = .ok (.iaload, 1) := by decide +kernel
theorem dX7_molesAt_25 : decode cX7_molesAt 25 = .ok (.iload_n 1, 1) := by decide +kernel
theorem dX7_molesAt_26 : decode cX7_molesAt 26 = .ok (.if_icmp .ne 7, 3) := by decide +kernel
theorem dX7_molesAt_29 : decode cX7_molesAt 29 = .ok (.iconst 1, 1) := by decide +kernel
theorem dX7_molesAt_30 : decode cX7_molesAt 30 = .ok (.goto 4, 3) := by decide +kernel
theorem dX7_molesAt_33 : decode cX7_molesAt 33 = .ok (.iconst 0, 1) := by decide +kernel
theorem dX7_molesAt_34 : decode cX7_molesAt 34 = .ok (.iadd, 1) := by decide +kernel
theorem dX7_molesAt_35 : decode cX7_molesAt 35 = .ok (.istore_n 2, 1) := by decide +kernel
theorem dX7_molesAt_36 : decode cX7_molesAt 36 = .ok (.iinc 3 1, 3) := by decide +kernel
theorem dX7_molesAt_39 : decode cX7_molesAt 39 = .ok (.goto (-35), 3) := by decide +kernel
theorem dX7_molesAt_42 : decode cX7_molesAt 42 = .ok (.iload_n 2, 1) := by decide +kernel
theorem dX7_molesAt_43 : decode cX7_molesAt 43 = .ok (.ireturn, 1) := by decide +kernel
theorem lg_wsX7_toldOfTuft_0 : GoodIn wsX7_toldOfTuft wsX7_toldOfTuft_r1 := goodIn_sub (fun _ h => (List.mem_cons_of_mem _ (List.mem_append_left _ (List.mem_append_left _ h)))) (by decide +kernel)
theorem lg_wsX7_toldOfTuft_1 : GoodIn wsX7_toldOfTuft wsX7_toldOfTuft_r2 := goodIn_sub (fun _ h => (List.mem_cons_of_mem _ (List.mem_append_left _ (List.mem_append_right _ (List.mem_append_left _ h))))) (by decide +kernel)
theorem lg_wsX7_toldOfTuft_2 : GoodIn wsX7_toldOfTuft wsX7_toldOfTuft_r3 := goodIn_sub (fun _ h => (List.mem_cons_of_mem _ (List.mem_append_left _ (List.mem_append_right _ (List.mem_append_right _ h))))) (by decide +kernel)
theorem ls_wsX7_toldOfTuft_0 : GoodIn wsX7_toldOfTuft wsX70 := goodIn_sub (fun _ h => (List.mem_cons_of_mem _ (List.mem_append_right _ h))) (by decide +kernel)
set_option maxRecDepth 20000 in
theorem ggX7_toldOfTuft_X7_layHollow : GoodIn wsX7_toldOfTuft wsX7_layHollow := (gi_cons (lg_wsX7_toldOfTuft_0 _ (List.mem_of_getElem? (i := 7) rfl)) (goodIn_app (gi_cons (lg_wsX7_toldOfTuft_0 _ (List.mem_of_getElem? (i := 1) rfl)) (gi_cons (lg_wsX7_toldOfTuft_0 _ (List.mem_of_getElem? (i := 0) rfl)) (gi_cons (lg_wsX7_toldOfTuft_0 _ (List.mem_of_getElem? (i := 8) rfl)) (gi_cons (lg_wsX7_toldOfTuft_0 _ (List.mem_of_getElem? (i := 9) rfl)) (gi_cons (lg_wsX7_toldOfTuft_0 _ (List.mem_of_getElem? (i := 10) rfl)) (gi_cons (lg_wsX7_toldOfTuft_0 _ (List.mem_of_getElem? (i := 6) rfl)) (gi_cons (lg_wsX7_toldOfTuft_0 _ (List.mem_of_getElem? (i := 11) rfl)) (gi_cons (lg_wsX7_toldOfTuft_0 _ (List.mem_of_getElem? (i := 12) rfl)) (gi_cons (lg_wsX7_toldOfTuft_0 _ (List.mem_of_getElem? (i := 13) rfl)) (gi_cons (lg_wsX7_toldOfTuft_0 _ (List.mem_of_getElem? (i := 14) rfl)) gi_nil)))))))))) ls_wsX7_toldOfTuft_0))
set_option maxRecDepth 20000 in
theorem gX7_toldOfTuft_X7_layHollow : GoodIn wsX7_toldOfTuft (wsV RX7 197 RX7 yX7_layHollow wsX7_layHollow) := goodIn_app (gi_cons (lg_wsX7_toldOfTuft_0 _ (List.mem_of_getElem? (i := 3) rfl)) (gi_cons (lg_wsX7_toldOfTuft_0 _ (List.mem_of_getElem? (i := 4) rfl)) (gi_cons (lg_wsX7_toldOfTuft_0 _ (List.mem_of_getElem? (i := 5) rfl)) (gi_cons (lg_wsX7_toldOfTuft_0 _ (List.mem_of_getElem? (i := 6) rfl)) gi_nil)))) ggX7_toldOfTuft_X7_layHollow
set_option maxRecDepth 20000 in
theorem ggX7_toldOfTuft_X7_numberOf : GoodIn wsX7_toldOfTuft wsX7_numberOf := (gi_cons (lg_wsX7_toldOfTuft_0 _ (List.mem_of_getElem? (i := 18) rfl)) (goodIn_app (gi_cons (lg_wsX7_toldOfTuft_0 _ (List.mem_of_getElem? (i := 1) rfl)) (gi_cons (lg_wsX7_toldOfTuft_0 _ (List.mem_of_getElem? (i := 19) rfl)) (gi_cons (lg_wsX7_toldOfTuft_0 _ (List.mem_of_getElem? (i := 20) rfl)) (gi_cons (lg_wsX7_toldOfTuft_0 _ (List.mem_of_getElem? (i := 6) rfl)) (gi_cons (lg_wsX7_toldOfTuft_0 _ (List.mem_of_getElem? (i := 21) rfl)) (gi_cons (lg_wsX7_toldOfTuft_0 _ (List.mem_of_getElem? (i := 22) rfl)) (gi_cons (lg_wsX7_toldOfTuft_0 _ (List.mem_of_getElem? (i := 23) rfl)) (gi_cons (lg_wsX7_toldOfTuft_1 _ (List.mem_of_getElem? (i := 0) rfl)) gi_nil)))))))) ls_wsX7_toldOfTuft_0))
set_option maxRecDepth 20000 in
theorem gX7_toldOfTuft_X7_numberOf : GoodIn wsX7_toldOfTuft (wsV RX7 203 RX7 yX7_numberOf wsX7_numberOf) := goodIn_app (gi_cons (lg_wsX7_toldOfTuft_0 _ (List.mem_of_getElem? (i := 15) rfl)) (gi_cons (lg_wsX7_toldOfTuft_0 _ (List.mem_of_getElem? (i := 16) rfl)) (gi_cons (lg_wsX7_toldOfTuft_0 _ (List.mem_of_getElem? (i := 17) rfl)) (gi_cons (lg_wsX7_toldOfTuft_0 _ (List.mem_of_getElem? (i := 6) rfl)) gi_nil)))) ggX7_toldOfTuft_X7_numberOf
set_option maxRecDepth 20000 in
theorem ggX7_toldOfTuft_X7_laySure : GoodIn wsX7_toldOfTuft wsX7_laySure := (gi_cons (lg_wsX7_toldOfTuft_1 _ (List.mem_of_getElem? (i := 4) rfl)) (goodIn_app (goodIn_app (gi_cons (lg_wsX7_toldOfTuft_0 _ (List.mem_of_getElem? (i := 2) rfl)) (gi_cons (lg_wsX7_toldOfTuft_0 _ (List.mem_of_getElem? (i := 0) rfl)) (gi_cons (lg_wsX7_toldOfTuft_0 _ (List.mem_of_getElem? (i := 1) rfl)) (gi_cons (lg_wsX7_toldOfTuft_0 _ (List.mem_of_getElem? (i := 3) rfl)) (gi_cons (lg_wsX7_toldOfTuft_0 _ (List.mem_of_getElem? (i := 4) rfl)) (gi_cons (lg_wsX7_toldOfTuft_0 _ (List.mem_of_getElem? (i := 5) rfl)) (gi_cons (lg_wsX7_toldOfTuft_0 _ (List.mem_of_getElem? (i := 6) rfl)) (gi_cons (lg_wsX7_toldOfTuft_0 _ (List.mem_of_getElem? (i := 7) rfl)) (gi_cons (lg_wsX7_toldOfTuft_0 _ (List.mem_of_getElem? (i := 8) rfl)) (gi_cons (lg_wsX7_toldOfTuft_0 _ (List.mem_of_getElem? (i := 9) rfl)) (gi_cons (lg_wsX7_toldOfTuft_0 _ (List.mem_of_getElem? (i := 10) rfl)) (gi_cons (lg_wsX7_toldOfTuft_0 _ (List.mem_of_getElem? (i := 11) rfl)) (gi_cons (lg_wsX7_toldOfTuft_0 _ (List.mem_of_getElem? (i := 12) rfl)) (gi_cons (lg_wsX7_toldOfTuft_0 _ (List.mem_of_getElem? (i := 13) rfl)) (gi_cons (lg_wsX7_toldOfTuft_0 _ (List.mem_of_getElem? (i := 14) rfl)) (gi_cons (lg_wsX7_toldOfTuft_1 _ (List.mem_of_getElem? (i := 5) rfl)) (gi_cons (lg_wsX7_toldOfTuft_1 _ (List.mem_of_getElem? (i := 6) rfl)) (gi_cons (lg_wsX7_toldOfTuft_1 _ (List.mem_of_getElem? (i := 7) rfl)) (gi_cons (lg_wsX7_toldOfTuft_1 _ (List.mem_of_getElem? (i := 8) rfl)) (gi_cons (lg_wsX7_toldOfTuft_0 _ (List.mem_of_getElem? (i := 15) rfl)) (gi_cons (lg_wsX7_toldOfTuft_0 _ (List.mem_of_getElem? (i := 16) rfl)) (gi_cons (lg_wsX7_toldOfTuft_0 _ (List.mem_of_getElem? (i := 17) rfl)) (gi_cons (lg_wsX7_toldOfTuft_0 _ (List.mem_of_getElem? (i := 18) rfl)) (gi_cons (lg_wsX7_toldOfTuft_0 _ (List.mem_of_getElem? (i := 19) rfl)) gi_nil)))))))))))))))))))))))) (gi_cons (lg_wsX7_toldOfTuft_0 _ (List.mem_of_getElem? (i := 20) rfl)) (gi_cons (lg_wsX7_toldOfTuft_0 _ (List.mem_of_getElem? (i := 21) rfl)) (gi_cons (lg_wsX7_toldOfTuft_0 _ (List.mem_of_getElem? (i := 22) rfl)) (gi_cons (lg_wsX7_toldOfTuft_0 _ (List.mem_of_getElem? (i := 23) rfl)) (gi_cons (lg_wsX7_toldOfTuft_1 _ (List.mem_of_getElem? (i := 0) rfl)) (gi_cons (lg_wsX7_toldOfTuft_1 _ (List.mem_of_getElem? (i := 9) rfl)) (gi_cons (lg_wsX7_toldOfTuft_1 _ (List.mem_of_getElem? (i := 10) rfl)) (gi_cons (lg_wsX7_toldOfTuft_1 _ (List.mem_of_getElem? (i := 11) rfl)) (gi_cons (lg_wsX7_toldOfTuft_1 _ (List.mem_of_getElem? (i := 12) rfl)) gi_nil)))))))))) ls_wsX7_toldOfTuft_0))
set_option maxRecDepth 20000 in
theorem gX7_toldOfTuft_X7_laySure : GoodIn wsX7_toldOfTuft (wsV RX7 212 RX7 yX7_laySure wsX7_laySure) := goodIn_app (gi_cons (lg_wsX7_toldOfTuft_1 _ (List.mem_of_getElem? (i := 1) rfl)) (gi_cons (lg_wsX7_toldOfTuft_1 _ (List.mem_of_getElem? (i := 2) rfl)) (gi_cons (lg_wsX7_toldOfTuft_1 _ (List.mem_of_getElem? (i := 3) rfl)) (gi_cons (lg_wsX7_toldOfTuft_0 _ (List.mem_of_getElem? (i := 6) rfl)) gi_nil)))) ggX7_toldOfTuft_X7_laySure
set_option maxRecDepth 20000 in
theorem ggX7_toldOfTuft_X7_tunnelsWith : GoodIn wsX7_toldOfTuft wsX7_tunnelsWith := (gi_cons (lg_wsX7_toldOfTuft_1 _ (List.mem_of_getElem? (i := 16) rfl)) (goodIn_app (gi_cons (lg_wsX7_toldOfTuft_0 _ (List.mem_of_getElem? (i := 0) rfl)) (gi_cons (lg_wsX7_toldOfTuft_1 _ (List.mem_of_getElem? (i := 17) rfl)) (gi_cons (lg_wsX7_toldOfTuft_1 _ (List.mem_of_getElem? (i := 18) rfl)) (gi_cons (lg_wsX7_toldOfTuft_1 _ (List.mem_of_getElem? (i := 19) rfl)) (gi_cons (lg_wsX7_toldOfTuft_0 _ (List.mem_of_getElem? (i := 6) rfl)) (gi_cons (lg_wsX7_toldOfTuft_1 _ (List.mem_of_getElem? (i := 20) rfl)) (gi_cons (lg_wsX7_toldOfTuft_1 _ (List.mem_of_getElem? (i := 21) rfl)) (gi_cons (lg_wsX7_toldOfTuft_1 _ (List.mem_of_getElem? (i := 22) rfl)) (gi_cons (lg_wsX7_toldOfTuft_1 _ (List.mem_of_getElem? (i := 23) rfl)) (gi_cons (lg_wsX7_toldOfTuft_2 _ (List.mem_of_getElem? (i := 0) rfl)) (gi_cons (lg_wsX7_toldOfTuft_0 _ (List.mem_of_getElem? (i := 8) rfl)) (gi_cons (lg_wsX7_toldOfTuft_0 _ (List.mem_of_getElem? (i := 9) rfl)) (gi_cons (lg_wsX7_toldOfTuft_0 _ (List.mem_of_getElem? (i := 10) rfl)) (gi_cons (lg_wsX7_toldOfTuft_0 _ (List.mem_of_getElem? (i := 11) rfl)) gi_nil)))))))))))))) ls_wsX7_toldOfTuft_0))
set_option maxRecDepth 20000 in
theorem gX7_toldOfTuft_X7_tunnelsWith : GoodIn wsX7_toldOfTuft (wsV RX7 215 RX7 yX7_tunnelsWith wsX7_tunnelsWith) := goodIn_app (gi_cons (lg_wsX7_toldOfTuft_1 _ (List.mem_of_getElem? (i := 13) rfl)) (gi_cons (lg_wsX7_toldOfTuft_1 _ (List.mem_of_getElem? (i := 14) rfl)) (gi_cons (lg_wsX7_toldOfTuft_1 _ (List.mem_of_getElem? (i := 15) rfl)) (gi_cons (lg_wsX7_toldOfTuft_0 _ (List.mem_of_getElem? (i := 6) rfl)) gi_nil)))) ggX7_toldOfTuft_X7_tunnelsWith
set_option maxRecDepth 20000 in
theorem ggX7_toldOfTuft_X7_molesAt : GoodIn wsX7_toldOfTuft wsX7_molesAt := (gi_cons (lg_wsX7_toldOfTuft_2 _ (List.mem_of_getElem? (i := 4) rfl)) (goodIn_app (gi_cons (lg_wsX7_toldOfTuft_0 _ (List.mem_of_getElem? (i := 0) rfl)) (gi_cons (lg_wsX7_toldOfTuft_0 _ (List.mem_of_getElem? (i := 12) rfl)) (gi_cons (lg_wsX7_toldOfTuft_0 _ (List.mem_of_getElem? (i := 13) rfl)) (gi_cons (lg_wsX7_toldOfTuft_0 _ (List.mem_of_getElem? (i := 6) rfl)) (gi_cons (lg_wsX7_toldOfTuft_0 _ (List.mem_of_getElem? (i := 14) rfl)) gi_nil))))) ls_wsX7_toldOfTuft_0))
set_option maxRecDepth 20000 in
theorem gX7_toldOfTuft_X7_molesAt : GoodIn wsX7_toldOfTuft (wsV RX7 218 RX7 yX7_molesAt wsX7_molesAt) := goodIn_app (gi_cons (lg_wsX7_toldOfTuft_2 _ (List.mem_of_getElem? (i := 1) rfl)) (gi_cons (lg_wsX7_toldOfTuft_2 _ (List.mem_of_getElem? (i := 2) rfl)) (gi_cons (lg_wsX7_toldOfTuft_2 _ (List.mem_of_getElem? (i := 3) rfl)) (gi_cons (lg_wsX7_toldOfTuft_0 _ (List.mem_of_getElem? (i := 6) rfl)) gi_nil)))) ggX7_toldOfTuft_X7_molesAt
theorem dX7_toldOfTuft_0 : decode cX7_toldOfTuft 0 = .ok (.iload_n 2, 1) := by decide +kernel
theorem dX7_toldOfTuft_1 : decode cX7_toldOfTuft 1 = .ok (.tableswitch 135 0 7 #[47, 57, 67, 78, 97, 107, 118, 129], 47) := by decide +kernel
theorem dX7_toldOfTuft_48 : decode cX7_toldOfTuft 48 = .ok (.aload_n 0, 1) := by decide +kernel
theorem dX7_toldOfTuft_49 : decode cX7_toldOfTuft 49 = .ok (.getfield 7, 3) := by decide +kernel
theorem dX7_toldOfTuft_52 : decode cX7_toldOfTuft 52 = .ok (.bipush 8, 2) := by decide +kernel
theorem dX7_toldOfTuft_54 : decode cX7_toldOfTuft 54 = .ok (.iload_n 1, 1) := by decide +kernel
theorem dX7_toldOfTuft_55 : decode cX7_toldOfTuft 55 = .ok (.iadd, 1) := by decide +kernel
theorem dX7_toldOfTuft_56 : decode cX7_toldOfTuft 56 = .ok (.iaload, 1) := by decide +kernel
theorem dX7_toldOfTuft_57 : decode cX7_toldOfTuft 57 = .ok (.ireturn, 1) := by decide +kernel
theorem dX7_toldOfTuft_58 : decode cX7_toldOfTuft 58 = .ok (.aload_n 0, 1) := by decide +kernel
theorem dX7_toldOfTuft_59 : decode cX7_toldOfTuft 59 = .ok (.getfield 7, 3) := by decide +kernel
theorem dX7_toldOfTuft_62 : decode cX7_toldOfTuft 62 = .ok (.bipush 72, 2) := by decide +kernel
theorem dX7_toldOfTuft_64 : decode cX7_toldOfTuft 64 = .ok (.iload_n 1, 1) := by decide +kernel
theorem dX7_toldOfTuft_65 : decode cX7_toldOfTuft 65 = .ok (.iadd, 1) := by decide +kernel
theorem dX7_toldOfTuft_66 : decode cX7_toldOfTuft 66 = .ok (.iaload, 1) := by decide +kernel
theorem dX7_toldOfTuft_67 : decode cX7_toldOfTuft 67 = .ok (.ireturn, 1) := by decide +kernel
theorem dX7_toldOfTuft_68 : decode cX7_toldOfTuft 68 = .ok (.aload_n 0, 1) := by decide +kernel
theorem dX7_toldOfTuft_69 : decode cX7_toldOfTuft 69 = .ok (.getfield 7, 3) := by decide +kernel
theorem dX7_toldOfTuft_72 : decode cX7_toldOfTuft 72 = .ok (.sipush 136, 3) := by decide +kernel
theorem dX7_toldOfTuft_75 : decode cX7_toldOfTuft 75 = .ok (.iload_n 1, 1) := by decide +kernel
theorem dX7_toldOfTuft_76 : decode cX7_toldOfTuft 76 = .ok (.iadd, 1) := by decide +kernel
theorem dX7_toldOfTuft_77 : decode cX7_toldOfTuft 77 = .ok (.iaload, 1) := by decide +kernel
theorem dX7_toldOfTuft_78 : decode cX7_toldOfTuft 78 = .ok (.ireturn, 1) := by decide +kernel
theorem dX7_toldOfTuft_79 : decode cX7_toldOfTuft 79 = .ok (.aload_n 0, 1) := by decide +kernel
theorem dX7_toldOfTuft_80 : decode cX7_toldOfTuft 80 = .ok (.invokevirtual 197, 3) := by decide +kernel
theorem dX7_toldOfTuft_83 : decode cX7_toldOfTuft 83 = .ok (.aload_n 0, 1) := by decide +kernel
theorem dX7_toldOfTuft_84 : decode cX7_toldOfTuft 84 = .ok (.getfield 28, 3) := by decide +kernel
theorem dX7_toldOfTuft_87 : decode cX7_toldOfTuft 87 = .ok (.iload_n 1, 1) := by decide +kernel
theorem dX7_toldOfTuft_88 : decode cX7_toldOfTuft 88 = .ok (.baload, 1) := by decide +kernel
theorem dX7_toldOfTuft_89 : decode cX7_toldOfTuft 89 = .ok (.ifCond .eq 7, 3) := by decide +kernel
theorem dX7_toldOfTuft_92 : decode cX7_toldOfTuft 92 = .ok (.iconst 1, 1) := by decide +kernel
theorem dX7_toldOfTuft_93 : decode cX7_toldOfTuft 93 = .ok (.goto 4, 3) := by decide +kernel
theorem dX7_toldOfTuft_96 : decode cX7_toldOfTuft 96 = .ok (.iconst 0, 1) := by decide +kernel
theorem dX7_toldOfTuft_97 : decode cX7_toldOfTuft 97 = .ok (.ireturn, 1) := by decide +kernel
theorem dX7_toldOfTuft_98 : decode cX7_toldOfTuft 98 = .ok (.aload_n 0, 1) := by decide +kernel
theorem dX7_toldOfTuft_99 : decode cX7_toldOfTuft 99 = .ok (.invokevirtual 197, 3) := by decide +kernel
theorem dX7_toldOfTuft_102 : decode cX7_toldOfTuft 102 = .ok (.aload_n 0, 1) := by decide +kernel
theorem dX7_toldOfTuft_103 : decode cX7_toldOfTuft 103 = .ok (.iload_n 1, 1) := by decide +kernel
theorem dX7_toldOfTuft_104 : decode cX7_toldOfTuft 104 = .ok (.invokevirtual 203, 3) := by decide +kernel
theorem dX7_toldOfTuft_107 : decode cX7_toldOfTuft 107 = .ok (.ireturn, 1) := by decide +kernel
theorem dX7_toldOfTuft_108 : decode cX7_toldOfTuft 108 = .ok (.aload_n 0, 1) := by decide +kernel
theorem dX7_toldOfTuft_109 : decode cX7_toldOfTuft 109 = .ok (.getfield 7, 3) := by decide +kernel
theorem dX7_toldOfTuft_112 : decode cX7_toldOfTuft 112 = .ok (.sipush 200, 3) := by decide +kernel
theorem dX7_toldOfTuft_115 : decode cX7_toldOfTuft 115 = .ok (.iload_n 1, 1) := by decide +kernel
theorem dX7_toldOfTuft_116 : decode cX7_toldOfTuft 116 = .ok (.iadd, 1) := by decide +kernel
theorem dX7_toldOfTuft_117 : decode cX7_toldOfTuft 117 = .ok (.iaload, 1) := by decide +kernel
theorem dX7_toldOfTuft_118 : decode cX7_toldOfTuft 118 = .ok (.ireturn, 1) := by decide +kernel
theorem dX7_toldOfTuft_119 : decode cX7_toldOfTuft 119 = .ok (.aload_n 0, 1) := by decide +kernel
theorem dX7_toldOfTuft_120 : decode cX7_toldOfTuft 120 = .ok (.invokevirtual 212, 3) := by decide +kernel
theorem dX7_toldOfTuft_123 : decode cX7_toldOfTuft 123 = .ok (.aload_n 0, 1) := by decide +kernel
theorem dX7_toldOfTuft_124 : decode cX7_toldOfTuft 124 = .ok (.getfield 32, 3) := by decide +kernel
theorem dX7_toldOfTuft_127 : decode cX7_toldOfTuft 127 = .ok (.iload_n 1, 1) := by decide +kernel
theorem dX7_toldOfTuft_128 : decode cX7_toldOfTuft 128 = .ok (.iaload, 1) := by decide +kernel
theorem dX7_toldOfTuft_129 : decode cX7_toldOfTuft 129 = .ok (.ireturn, 1) := by decide +kernel
theorem dX7_toldOfTuft_130 : decode cX7_toldOfTuft 130 = .ok (.aload_n 0, 1) := by decide +kernel
theorem dX7_toldOfTuft_131 : decode cX7_toldOfTuft 131 = .ok (.iload_n 1, 1) := by decide +kernel
theorem dX7_toldOfTuft_132 : decode cX7_toldOfTuft 132 = .ok (.invokevirtual 215, 3) := by decide +kernel
theorem dX7_toldOfTuft_135 : decode cX7_toldOfTuft 135 = .ok (.ireturn, 1) := by decide +kernel
theorem dX7_toldOfTuft_136 : decode cX7_toldOfTuft 136 = .ok (.aload_n 0, 1) := by decide +kernel
theorem dX7_toldOfTuft_137 : decode cX7_toldOfTuft 137 = .ok (.iload_n 1, 1) := by decide +kernel
theorem dX7_toldOfTuft_138 : decode cX7_toldOfTuft 138 = .ok (.invokevirtual 218, 3) := by decide +kernel
theorem dX7_toldOfTuft_141 : decode cX7_toldOfTuft 141 = .ok (.ireturn, 1) := by decide +kernel
theorem lg_wsX7_tuft_0 : GoodIn wsX7_tuft wsX7_tuft_r1 := goodIn_sub (fun _ h => (List.mem_cons_of_mem _ (List.mem_append_left _ (List.mem_append_left _ h)))) (by decide +kernel)
theorem lg_wsX7_tuft_1 : GoodIn wsX7_tuft wsX7_tuft_r2 := goodIn_sub (fun _ h => (List.mem_cons_of_mem _ (List.mem_append_left _ (List.mem_append_right _ (List.mem_append_left _ h))))) (by decide +kernel)
theorem lg_wsX7_tuft_2 : GoodIn wsX7_tuft wsX7_tuft_r3 := goodIn_sub (fun _ h => (List.mem_cons_of_mem _ (List.mem_append_left _ (List.mem_append_right _ (List.mem_append_right _ h))))) (by decide +kernel)
theorem ls_wsX7_tuft_0 : GoodIn wsX7_tuft wsX70 := goodIn_sub (fun _ h => (List.mem_cons_of_mem _ (List.mem_append_right _ h))) (by decide +kernel)
set_option maxRecDepth 20000 in
theorem ggX7_tuft_X7_isTuft : GoodIn wsX7_tuft wsX7_isTuft := (gi_cons (lg_wsX7_tuft_0 _ (List.mem_of_getElem? (i := 3) rfl)) (gi_cons (lg_wsX7_tuft_0 _ (List.mem_of_getElem? (i := 4) rfl)) (gi_cons (lg_wsX7_tuft_0 _ (List.mem_of_getElem? (i := 5) rfl)) (gi_cons (lg_wsX7_tuft_0 _ (List.mem_of_getElem? (i := 2) rfl)) (gi_cons (lg_wsX7_tuft_0 _ (List.mem_of_getElem? (i := 6) rfl)) gi_nil)))))
set_option maxRecDepth 20000 in
theorem gX7_tuft_X7_isTuft : GoodIn wsX7_tuft (va_wsS RX7 120 yX7_isTuft wsX7_isTuft) := goodIn_app (gi_cons (lg_wsX7_tuft_0 _ (List.mem_of_getElem? (i := 0) rfl)) (gi_cons (lg_wsX7_tuft_0 _ (List.mem_of_getElem? (i := 1) rfl)) (gi_cons (lg_wsX7_tuft_0 _ (List.mem_of_getElem? (i := 2) rfl)) gi_nil))) ggX7_tuft_X7_isTuft
set_option maxRecDepth 20000 in
theorem ggX7_tuft_X7_in : GoodIn wsX7_tuft wsX7_in := (gi_cons (lg_wsX7_tuft_0 _ (List.mem_of_getElem? (i := 6) rfl)) gi_nil)
set_option maxRecDepth 20000 in
theorem gX7_tuft_X7_in : GoodIn wsX7_tuft (va_wsS RX7 42 yX7_in wsX7_in) := goodIn_app (gi_cons (lg_wsX7_tuft_0 _ (List.mem_of_getElem? (i := 4) rfl)) (gi_cons (lg_wsX7_tuft_0 _ (List.mem_of_getElem? (i := 5) rfl)) (gi_cons (lg_wsX7_tuft_0 _ (List.mem_of_getElem? (i := 2) rfl)) gi_nil))) ggX7_tuft_X7_in
set_option maxRecDepth 20000 in
theorem ggX7_tuft_X7_holds : GoodIn wsX7_tuft wsX7_holds := (gi_cons (lg_wsX7_tuft_0 _ (List.mem_of_getElem? (i := 10) rfl)) (goodIn_app (gi_cons (lg_wsX7_tuft_0 _ (List.mem_of_getElem? (i := 11) rfl)) gi_nil) ls_wsX7_tuft_0))
set_option maxRecDepth 20000 in
theorem gX7_tuft_X7_holds : GoodIn wsX7_tuft (wsV RX7 123 RX7 yX7_holds wsX7_holds) := goodIn_app (gi_cons (lg_wsX7_tuft_0 _ (List.mem_of_getElem? (i := 7) rfl)) (gi_cons (lg_wsX7_tuft_0 _ (List.mem_of_getElem? (i := 8) rfl)) (gi_cons (lg_wsX7_tuft_0 _ (List.mem_of_getElem? (i := 9) rfl)) (gi_cons (lg_wsX7_tuft_0 _ (List.mem_of_getElem? (i := 2) rfl)) gi_nil)))) ggX7_tuft_X7_holds
set_option maxRecDepth 20000 in
theorem ggX7_tuft_X7_toldOfTuft : GoodIn wsX7_tuft wsX7_toldOfTuft := (gi_cons (lg_wsX7_tuft_0 _ (List.mem_of_getElem? (i := 15) rfl)) (goodIn_app (goodIn_app (gi_cons (lg_wsX7_tuft_0 _ (List.mem_of_getElem? (i := 16) rfl)) (gi_cons (lg_wsX7_tuft_0 _ (List.mem_of_getElem? (i := 17) rfl)) (gi_cons (lg_wsX7_tuft_0 _ (List.mem_of_getElem? (i := 18) rfl)) (gi_cons (lg_wsX7_tuft_0 _ (List.mem_of_getElem? (i := 19) rfl)) (gi_cons (lg_wsX7_tuft_0 _ (List.mem_of_getElem? (i := 20) rfl)) (gi_cons (lg_wsX7_tuft_0 _ (List.mem_of_getElem? (i := 21) rfl)) (gi_cons (lg_wsX7_tuft_0 _ (List.mem_of_getElem? (i := 2) rfl)) (gi_cons (lg_wsX7_tuft_0 _ (List.mem_of_getElem? (i := 22) rfl)) (gi_cons (lg_wsX7_tuft_0 _ (List.mem_of_getElem? (i := 23) rfl)) (gi_cons (lg_wsX7_tuft_1 _ (List.mem_of_getElem? (i := 0) rfl)) (gi_cons (lg_wsX7_tuft_1 _ (List.mem_of_getElem? (i := 1) rfl)) (gi_cons (lg_wsX7_tuft_1 _ (List.mem_of_getElem? (i := 2) rfl)) (gi_cons (lg_wsX7_tuft_1 _ (List.mem_of_getElem? (i := 3) rfl)) (gi_cons (lg_wsX7_tuft_1 _ (List.mem_of_getElem? (i := 4) rfl)) (gi_cons (lg_wsX7_tuft_1 _ (List.mem_of_getElem? (i := 5) rfl)) (gi_cons (lg_wsX7_tuft_1 _ (List.mem_of_getElem? (i := 6) rfl)) (gi_cons (lg_wsX7_tuft_1 _ (List.mem_of_getElem? (i := 7) rfl)) (gi_cons (lg_wsX7_tuft_1 _ (List.mem_of_getElem? (i := 8) rfl)) (gi_cons (lg_wsX7_tuft_1 _ (List.mem_of_getElem? (i := 9) rfl)) (gi_cons (lg_wsX7_tuft_1 _ (List.mem_of_getElem? (i := 10) rfl)) (gi_cons (lg_wsX7_tuft_1 _ (List.mem_of_getElem? (i := 11) rfl)) (gi_cons (lg_wsX7_tuft_1 _ (List.mem_of_getElem? (i := 12) rfl)) (gi_cons (lg_wsX7_tuft_0 _ (List.mem_of_getElem? (i := 4) rfl)) (gi_cons (lg_wsX7_tuft_0 _ (List.mem_of_getElem? (i := 5) rfl)) gi_nil)))))))))))))))))))))))) (goodIn_app (gi_cons (lg_wsX7_tuft_0 _ (List.mem_of_getElem? (i := 6) rfl)) (gi_cons (lg_wsX7_tuft_1 _ (List.mem_of_getElem? (i := 13) rfl)) (gi_cons (lg_wsX7_tuft_1 _ (List.mem_of_getElem? (i := 14) rfl)) (gi_cons (lg_wsX7_tuft_1 _ (List.mem_of_getElem? (i := 15) rfl)) (gi_cons (lg_wsX7_tuft_1 _ (List.mem_of_getElem? (i := 16) rfl)) (gi_cons (lg_wsX7_tuft_1 _ (List.mem_of_getElem? (i := 17) rfl)) (gi_cons (lg_wsX7_tuft_1 _ (List.mem_of_getElem? (i := 18) rfl)) (gi_cons (lg_wsX7_tuft_1 _ (List.mem_of_getElem? (i := 19) rfl)) (gi_cons (lg_wsX7_tuft_1 _ (List.mem_of_getElem? (i := 20) rfl)) (gi_cons (lg_wsX7_tuft_1 _ (List.mem_of_getElem? (i := 21) rfl)) (gi_cons (lg_wsX7_tuft_1 _ (List.mem_of_getElem? (i := 22) rfl)) (gi_cons (lg_wsX7_tuft_1 _ (List.mem_of_getElem? (i := 23) rfl)) (gi_cons (lg_wsX7_tuft_2 _ (List.mem_of_getElem? (i := 0) rfl)) (gi_cons (lg_wsX7_tuft_2 _ (List.mem_of_getElem? (i := 1) rfl)) (gi_cons (lg_wsX7_tuft_2 _ (List.mem_of_getElem? (i := 2) rfl)) (gi_cons (lg_wsX7_tuft_2 _ (List.mem_of_getElem? (i := 3) rfl)) (gi_cons (lg_wsX7_tuft_2 _ (List.mem_of_getElem? (i := 4) rfl)) (gi_cons (lg_wsX7_tuft_2 _ (List.mem_of_getElem? (i := 5) rfl)) (gi_cons (lg_wsX7_tuft_2 _ (List.mem_of_getElem? (i := 6) rfl)) (gi_cons (lg_wsX7_tuft_2 _ (List.mem_of_getElem? (i := 7) rfl)) (gi_cons (lg_wsX7_tuft_2 _ (List.mem_of_getElem? (i := 8) rfl)) (gi_cons (lg_wsX7_tuft_2 _ (List.mem_of_getElem? (i := 9) rfl)) (gi_cons (lg_wsX7_tuft_2 _ (List.mem_of_getElem? (i := 10) rfl)) (gi_cons (lg_wsX7_tuft_2 _ (List.mem_of_getElem? (i := 11) rfl)) gi_nil)))))))))))))))))))))))) (gi_cons (lg_wsX7_tuft_2 _ (List.mem_of_getElem? (i := 12) rfl)) (gi_cons (lg_wsX7_tuft_2 _ (List.mem_of_getElem? (i := 13) rfl)) (gi_cons (lg_wsX7_tuft_2 _ (List.mem_of_getElem? (i := 14) rfl)) (gi_cons (lg_wsX7_tuft_2 _ (List.mem_of_getElem? (i := 15) rfl)) (gi_cons (lg_wsX7_tuft_2 _ (List.mem_of_getElem? (i := 16) rfl)) gi_nil))))))) ls_wsX7_tuft_0))
set_option maxRecDepth 20000 in
theorem gX7_tuft_X7_toldOfTuft : GoodIn wsX7_tuft (wsV RX7 221 RX7 yX7_toldOfTuft wsX7_toldOfTuft) := goodIn_app (gi_cons (lg_wsX7_tuft_0 _ (List.mem_of_getElem? (i := 12) rfl)) (gi_cons (lg_wsX7_tuft_0 _ (List.mem_of_getElem? (i := 13) rfl)) (gi_cons (lg_wsX7_tuft_0 _ (List.mem_of_getElem? (i := 14) rfl)) (gi_cons (lg_wsX7_tuft_0 _ (List.mem_of_getElem? (i := 2) rfl)) gi_nil)))) ggX7_tuft_X7_toldOfTuft
theorem dX7_tuft_0 : decode cX7_tuft 0 = .ok (.aload_n 0, 1) := by decide +kernel
theorem dX7_tuft_1 : decode cX7_tuft 1 = .ok (.iload_n 1, 1) := by decide +kernel
theorem dX7_tuft_2 : decode cX7_tuft 2 = .ok (.invokestatic 120, 3) := by decide +kernel
theorem dX7_tuft_5 : decode cX7_tuft 5 = .ok (.ifCond .ne 7, 3) := by decide +kernel
theorem dX7_tuft_8 : decode cX7_tuft 8 = .ok (.iconst 1, 1) := by decide +kernel
theorem dX7_tuft_9 : decode cX7_tuft 9 = .ok (.goto 18, 3) := by decide +kernel
theorem dX7_tuft_12 : decode cX7_tuft 12 = .ok (.iload_n 2, 1) := by decide +kernel
theorem dX7_tuft_13 : decode cX7_tuft 13 = .ok (.iconst 0, 1) := by decide +kernel
theorem dX7_tuft_14 : decode cX7_tuft 14 = .ok (.bipush 8, 2) := by decide +kernel
theorem dX7_tuft_16 : decode cX7_tuft 16 = .ok (.invokestatic 42, 3) := by decide +kernel
theorem dX7_tuft_19 : decode cX7_tuft 19 = .ok (.ifCond .ne 7, 3) := by decide +kernel
theorem dX7_tuft_22 : decode cX7_tuft 22 = .ok (.iconst 2, 1) := by decide +kernel
theorem dX7_tuft_23 : decode cX7_tuft 23 = .ok (.goto 4, 3) := by decide +kernel
theorem dX7_tuft_26 : decode cX7_tuft 26 = .ok (.iconst 0, 1) := by decide +kernel
theorem dX7_tuft_27 : decode cX7_tuft 27 = .ok (.invokevirtual 123, 3) := by decide +kernel
theorem dX7_tuft_30 : decode cX7_tuft 30 = .ok (.ifCond .eq 12, 3) := by decide +kernel
theorem dX7_tuft_33 : decode cX7_tuft 33 = .ok (.aload_n 0, 1) := by decide +kernel
theorem dX7_tuft_34 : decode cX7_tuft 34 = .ok (.iload_n 1, 1) := by decide +kernel
theorem dX7_tuft_35 : decode cX7_tuft 35 = .ok (.iload_n 2, 1) := by decide +kernel
theorem dX7_tuft_36 : decode cX7_tuft 36 = .ok (.invokevirtual 221, 3) := by decide +kernel
theorem dX7_tuft_39 : decode cX7_tuft 39 = .ok (.goto 4, 3) := by decide +kernel
theorem dX7_tuft_42 : decode cX7_tuft 42 = .ok (.iconst 0, 1) := by decide +kernel
theorem dX7_tuft_43 : decode cX7_tuft 43 = .ok (.ireturn, 1) := by decide +kernel
