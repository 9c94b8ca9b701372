theorem lg_wsX6_numberOfAll_0 : GoodIn wsX6_numberOfAll wsX6_numberOfAll_r1 := goodIn_sub (fun _ h => (List.mem_cons_of_mem _ (List.mem_append_left _ (List.mem_append_left _ (List.mem_append_left _ (List.mem_append_left _ (List.mem_append_left _ (List.mem_append_left _ h)))))))) (by decide +kernel)
theorem lg_wsX6_numberOfAll_1 : GoodIn wsX6_numberOfAll wsX6_numberOfAll_r2 := goodIn_sub (fun _ h => (List.mem_cons_of_mem _ (List.mem_append_left _ (List.mem_append_left _ (List.mem_append_left _ (List.mem_append_left _ (List.mem_append_left _ (List.mem_append_right _ (List.mem_append_left _ h))))))))) (by decide +kernel)
theorem lg_wsX6_numberOfAll_2 : GoodIn wsX6_numberOfAll wsX6_numberOfAll_r3 := goodIn_sub (fun _ h => (List.mem_cons_of_mem _ (List.mem_append_left _ (List.mem_append_left _ (List.mem_append_left _ (List.mem_append_left _ (List.mem_append_left _ (List.mem_append_right _ (List.mem_append_right _ (List.mem_append_left _ h)))))))))) (by decide +kernel)
theorem lg_wsX6_numberOfAll_3 : GoodIn wsX6_numberOfAll wsX6_numberOfAll_r4 := goodIn_sub (fun _ h => (List.mem_cons_of_mem _ (List.mem_append_left _ (List.mem_append_left _ (List.mem_append_left _ (List.mem_append_left _ (List.mem_append_left _ (List.mem_append_right _ (List.mem_append_right _ (List.mem_append_right _ h)))))))))) (by decide +kernel)
theorem ls_wsX6_numberOfAll_0 : GoodIn wsX6_numberOfAll wsX60 := goodIn_sub (fun _ h => (List.mem_cons_of_mem _ (List.mem_append_left _ (List.mem_append_left _ (List.mem_append_left _ (List.mem_append_left _ (List.mem_append_right _ h))))))) (by decide +kernel)
theorem ls_wsX6_numberOfAll_1 : GoodIn wsX6_numberOfAll wsX00 := goodIn_sub (fun _ h => (List.mem_cons_of_mem _ (List.mem_append_left _ (List.mem_append_left _ (List.mem_append_left _ (List.mem_append_right _ h)))))) (by decide +kernel)
theorem ls_wsX6_numberOfAll_2 : GoodIn wsX6_numberOfAll wsX30 := goodIn_sub (fun _ h => (List.mem_cons_of_mem _ (List.mem_append_left _ (List.mem_append_left _ (List.mem_append_right _ h))))) (by decide +kernel)
theorem ls_wsX6_numberOfAll_3 : GoodIn wsX6_numberOfAll wsX40 := goodIn_sub (fun _ h => (List.mem_cons_of_mem _ (List.mem_append_left _ (List.mem_append_right _ h)))) (by decide +kernel)
theorem ls_wsX6_numberOfAll_4 : GoodIn wsX6_numberOfAll wsX20 := goodIn_sub (fun _ h => (List.mem_cons_of_mem _ (List.mem_append_right _ h))) (by decide +kernel)
set_option maxRecDepth 20000 in
theorem ggX6_numberOfAll_X0_moundCount : GoodIn wsX6_numberOfAll wsX0_moundCount := (gi_cons (lg_wsX6_numberOfAll_0 _ (List.mem_of_getElem? (i := 17) rfl)) (goodIn_app (gi_cons (lg_wsX6_numberOfAll_0 _ (List.mem_of_getElem? (i := 18) rfl)) gi_nil) ls_wsX6_numberOfAll_1))
set_option maxRecDepth 20000 in
theorem gX6_numberOfAll_X0_moundCount : GoodIn wsX6_numberOfAll (wsV RX6 312 RX0 yX0_moundCount wsX0_moundCount) := goodIn_app (gi_cons (lg_wsX6_numberOfAll_0 _ (List.mem_of_getElem? (i := 13) rfl)) (gi_cons (lg_wsX6_numberOfAll_0 _ (List.mem_of_getElem? (i := 14) rfl)) (gi_cons (lg_wsX6_numberOfAll_0 _ (List.mem_of_getElem? (i := 15) rfl)) (gi_cons (lg_wsX6_numberOfAll_0 _ (List.mem_of_getElem? (i := 16) rfl)) gi_nil)))) ggX6_numberOfAll_X0_moundCount
set_option maxRecDepth 20000 in
theorem ggX6_numberOfAll_X4_hollowCount : GoodIn wsX6_numberOfAll wsX4_hollowCount := (gi_cons (lg_wsX6_numberOfAll_0 _ (List.mem_of_getElem? (i := 23) rfl)) (goodIn_app (gi_cons (lg_wsX6_numberOfAll_1 _ (List.mem_of_getElem? (i := 0) rfl)) gi_nil) ls_wsX6_numberOfAll_3))
set_option maxRecDepth 20000 in
theorem gX6_numberOfAll_X4_hollowCount : GoodIn wsX6_numberOfAll (wsV RX6 233 RX4 yX4_hollowCount wsX4_hollowCount) := goodIn_app (gi_cons (lg_wsX6_numberOfAll_0 _ (List.mem_of_getElem? (i := 19) rfl)) (gi_cons (lg_wsX6_numberOfAll_0 _ (List.mem_of_getElem? (i := 20) rfl)) (gi_cons (lg_wsX6_numberOfAll_0 _ (List.mem_of_getElem? (i := 21) rfl)) (gi_cons (lg_wsX6_numberOfAll_0 _ (List.mem_of_getElem? (i := 22) rfl)) gi_nil)))) ggX6_numberOfAll_X4_hollowCount
set_option maxRecDepth 20000 in
theorem ggX6_numberOfAll_X0_openedCount : GoodIn wsX6_numberOfAll wsX0_openedCount := (gi_cons (lg_wsX6_numberOfAll_1 _ (List.mem_of_getElem? (i := 4) rfl)) (goodIn_app (gi_cons (lg_wsX6_numberOfAll_1 _ (List.mem_of_getElem? (i := 5) rfl)) gi_nil) ls_wsX6_numberOfAll_1))
set_option maxRecDepth 20000 in
theorem gX6_numberOfAll_X0_openedCount : GoodIn wsX6_numberOfAll (wsV RX6 315 RX0 yX0_openedCount wsX0_openedCount) := goodIn_app (gi_cons (lg_wsX6_numberOfAll_1 _ (List.mem_of_getElem? (i := 1) rfl)) (gi_cons (lg_wsX6_numberOfAll_1 _ (List.mem_of_getElem? (i := 2) rfl)) (gi_cons (lg_wsX6_numberOfAll_1 _ (List.mem_of_getElem? (i := 3) rfl)) (gi_cons (lg_wsX6_numberOfAll_0 _ (List.mem_of_getElem? (i := 16) rfl)) gi_nil)))) ggX6_numberOfAll_X0_openedCount
set_option maxRecDepth 20000 in
theorem ggX6_numberOfAll_X0_trapCount : GoodIn wsX6_numberOfAll wsX0_trapCount := (gi_cons (lg_wsX6_numberOfAll_1 _ (List.mem_of_getElem? (i := 9) rfl)) (goodIn_app (gi_cons (lg_wsX6_numberOfAll_1 _ (List.mem_of_getElem? (i := 10) rfl)) gi_nil) ls_wsX6_numberOfAll_1))
set_option maxRecDepth 20000 in
theorem gX6_numberOfAll_X0_trapCount : GoodIn wsX6_numberOfAll (wsV RX6 118 RX0 yX0_trapCount wsX0_trapCount) := goodIn_app (gi_cons (lg_wsX6_numberOfAll_1 _ (List.mem_of_getElem? (i := 6) rfl)) (gi_cons (lg_wsX6_numberOfAll_1 _ (List.mem_of_getElem? (i := 7) rfl)) (gi_cons (lg_wsX6_numberOfAll_1 _ (List.mem_of_getElem? (i := 8) rfl)) (gi_cons (lg_wsX6_numberOfAll_0 _ (List.mem_of_getElem? (i := 16) rfl)) gi_nil)))) ggX6_numberOfAll_X0_trapCount
set_option maxRecDepth 20000 in
theorem ggX6_numberOfAll_X0_rootCount : GoodIn wsX6_numberOfAll wsX0_rootCount := (gi_cons (lg_wsX6_numberOfAll_1 _ (List.mem_of_getElem? (i := 14) rfl)) (goodIn_app (gi_cons (lg_wsX6_numberOfAll_1 _ (List.mem_of_getElem? (i := 15) rfl)) gi_nil) ls_wsX6_numberOfAll_1))
set_option maxRecDepth 20000 in
theorem gX6_numberOfAll_X0_rootCount : GoodIn wsX6_numberOfAll (wsV RX6 318 RX0 yX0_rootCount wsX0_rootCount) := goodIn_app (gi_cons (lg_wsX6_numberOfAll_1 _ (List.mem_of_getElem? (i := 11) rfl)) (gi_cons (lg_wsX6_numberOfAll_1 _ (List.mem_of_getElem? (i := 12) rfl)) (gi_cons (lg_wsX6_numberOfAll_1 _ (List.mem_of_getElem? (i := 13) rfl)) (gi_cons (lg_wsX6_numberOfAll_0 _ (List.mem_of_getElem? (i := 16) rfl)) gi_nil)))) ggX6_numberOfAll_X0_rootCount
set_option maxRecDepth 20000 in
theorem ggX6_numberOfAll_X2_groupCount : GoodIn wsX6_numberOfAll wsX2_groupCount := (gi_cons (lg_wsX6_numberOfAll_1 _ (List.mem_of_getElem? (i := 20) rfl)) (goodIn_app (goodIn_app (goodIn_app (goodIn_app (gi_cons (lg_wsX6_numberOfAll_1 _ (List.mem_of_getElem? (i := 21) rfl)) (gi_cons (lg_wsX6_numberOfAll_1 _ (List.mem_of_getElem? (i := 22) rfl)) (gi_cons (lg_wsX6_numberOfAll_1 _ (List.mem_of_getElem? (i := 23) rfl)) (gi_cons (lg_wsX6_numberOfAll_2 _ (List.mem_of_getElem? (i := 0) rfl)) (gi_cons (lg_wsX6_numberOfAll_0 _ (List.mem_of_getElem? (i := 14) rfl)) (gi_cons (lg_wsX6_numberOfAll_0 _ (List.mem_of_getElem? (i := 15) rfl)) (gi_cons (lg_wsX6_numberOfAll_0 _ (List.mem_of_getElem? (i := 16) rfl)) (gi_cons (lg_wsX6_numberOfAll_0 _ (List.mem_of_getElem? (i := 17) rfl)) (gi_cons (lg_wsX6_numberOfAll_0 _ (List.mem_of_getElem? (i := 18) rfl)) (gi_cons (lg_wsX6_numberOfAll_2 _ (List.mem_of_getElem? (i := 1) rfl)) (gi_cons (lg_wsX6_numberOfAll_2 _ (List.mem_of_getElem? (i := 2) rfl)) (gi_cons (lg_wsX6_numberOfAll_2 _ (List.mem_of_getElem? (i := 3) rfl)) (gi_cons (lg_wsX6_numberOfAll_2 _ (List.mem_of_getElem? (i := 4) rfl)) (gi_cons (lg_wsX6_numberOfAll_2 _ (List.mem_of_getElem? (i := 5) rfl)) (gi_cons (lg_wsX6_numberOfAll_2 _ (List.mem_of_getElem? (i := 6) rfl)) (gi_cons (lg_wsX6_numberOfAll_2 _ (List.mem_of_getElem? (i := 7) rfl)) (gi_cons (lg_wsX6_numberOfAll_2 _ (List.mem_of_getElem? (i := 8) rfl)) (gi_cons (lg_wsX6_numberOfAll_2 _ (List.mem_of_getElem? (i := 9) rfl)) (gi_cons (lg_wsX6_numberOfAll_2 _ (List.mem_of_getElem? (i := 10) rfl)) (gi_cons (lg_wsX6_numberOfAll_2 _ (List.mem_of_getElem? (i := 11) rfl)) (gi_cons (lg_wsX6_numberOfAll_2 _ (List.mem_of_getElem? (i := 12) rfl)) (gi_cons (lg_wsX6_numberOfAll_2 _ (List.mem_of_getElem? (i := 13) rfl)) (gi_cons (lg_wsX6_numberOfAll_2 _ (List.mem_of_getElem? (i := 14) rfl)) (gi_cons (lg_wsX6_numberOfAll_2 _ (List.mem_of_getElem? (i := 15) rfl)) gi_nil)))))))))))))))))))))))) (gi_cons (lg_wsX6_numberOfAll_2 _ (List.mem_of_getElem? (i := 16) rfl)) (gi_cons (lg_wsX6_numberOfAll_2 _ (List.mem_of_getElem? (i := 17) rfl)) (gi_cons (lg_wsX6_numberOfAll_2 _ (List.mem_of_getElem? (i := 18) rfl)) (gi_cons (lg_wsX6_numberOfAll_2 _ (List.mem_of_getElem? (i := 19) rfl)) (gi_cons (lg_wsX6_numberOfAll_2 _ (List.mem_of_getElem? (i := 20) rfl)) (gi_cons (lg_wsX6_numberOfAll_2 _ (List.mem_of_getElem? (i := 21) rfl)) (gi_cons (lg_wsX6_numberOfAll_2 _ (List.mem_of_getElem? (i := 22) rfl)) (gi_cons (lg_wsX6_numberOfAll_2 _ (List.mem_of_getElem? (i := 23) rfl)) (gi_cons (lg_wsX6_numberOfAll_3 _ (List.mem_of_getElem? (i := 0) rfl)) (gi_cons (lg_wsX6_numberOfAll_3 _ (List.mem_of_getElem? (i := 1) rfl)) (gi_cons (lg_wsX6_numberOfAll_3 _ (List.mem_of_getElem? (i := 2) rfl)) (gi_cons (lg_wsX6_numberOfAll_1 _ (List.mem_of_getElem? (i := 19) rfl)) (gi_cons (lg_wsX6_numberOfAll_3 _ (List.mem_of_getElem? (i := 3) rfl)) (gi_cons (lg_wsX6_numberOfAll_3 _ (List.mem_of_getElem? (i := 4) rfl)) (gi_cons (lg_wsX6_numberOfAll_3 _ (List.mem_of_getElem? (i := 5) rfl)) (gi_cons (lg_wsX6_numberOfAll_3 _ (List.mem_of_getElem? (i := 6) rfl)) (gi_cons (lg_wsX6_numberOfAll_3 _ (List.mem_of_getElem? (i := 7) rfl)) gi_nil)))))))))))))))))) ls_wsX6_numberOfAll_4) ls_wsX6_numberOfAll_1) ls_wsX6_numberOfAll_2))
set_option maxRecDepth 20000 in
theorem gX6_numberOfAll_X2_groupCount : GoodIn wsX6_numberOfAll (wsV RX6 324 RX2 yX2_groupCount wsX2_groupCount) := goodIn_app (gi_cons (lg_wsX6_numberOfAll_1 _ (List.mem_of_getElem? (i := 16) rfl)) (gi_cons (lg_wsX6_numberOfAll_1 _ (List.mem_of_getElem? (i := 17) rfl)) (gi_cons (lg_wsX6_numberOfAll_1 _ (List.mem_of_getElem? (i := 18) rfl)) (gi_cons (lg_wsX6_numberOfAll_1 _ (List.mem_of_getElem? (i := 19) rfl)) gi_nil)))) ggX6_numberOfAll_X2_groupCount
theorem dX6_numberOfAll_0 : decode cX6_numberOfAll 0 = .ok (.iload_n 1, 1) := by decide +kernel
theorem dX6_numberOfAll_1 : decode cX6_numberOfAll 1 = .ok (.tableswitch 190 0 13 #[71, 79, 87, 95, 103, 114, 122, 130, 138, 146, 154, 162, 170, 182], 71) := by decide +kernel
theorem dX6_numberOfAll_72 : decode cX6_numberOfAll 72 = .ok (.aload_n 0, 1) := by decide +kernel
theorem dX6_numberOfAll_73 : decode cX6_numberOfAll 73 = .ok (.getfield 15, 3) := by decide +kernel
theorem dX6_numberOfAll_76 : decode cX6_numberOfAll 76 = .ok (.getfield 306, 3) := by decide +kernel
theorem dX6_numberOfAll_79 : decode cX6_numberOfAll 79 = .ok (.ireturn, 1) := by decide +kernel
theorem dX6_numberOfAll_80 : decode cX6_numberOfAll 80 = .ok (.aload_n 0, 1) := by decide +kernel
theorem dX6_numberOfAll_81 : decode cX6_numberOfAll 81 = .ok (.getfield 15, 3) := by decide +kernel
theorem dX6_numberOfAll_84 : decode cX6_numberOfAll 84 = .ok (.getfield 56, 3) := by decide +kernel
theorem dX6_numberOfAll_87 : decode cX6_numberOfAll 87 = .ok (.ireturn, 1) := by decide +kernel
theorem dX6_numberOfAll_88 : decode cX6_numberOfAll 88 = .ok (.aload_n 0, 1) := by decide +kernel
theorem dX6_numberOfAll_89 : decode cX6_numberOfAll 89 = .ok (.getfield 15, 3) := by decide +kernel
theorem dX6_numberOfAll_92 : decode cX6_numberOfAll 92 = .ok (.getfield 309, 3) := by decide +kernel
theorem dX6_numberOfAll_95 : decode cX6_numberOfAll 95 = .ok (.ireturn, 1) := by decide +kernel
theorem dX6_numberOfAll_96 : decode cX6_numberOfAll 96 = .ok (.aload_n 0, 1) := by decide +kernel
theorem dX6_numberOfAll_97 : decode cX6_numberOfAll 97 = .ok (.getfield 15, 3) := by decide +kernel
theorem dX6_numberOfAll_100 : decode cX6_numberOfAll 100 = .ok (.invokevirtual 312, 3) := by decide +kernel
theorem dX6_numberOfAll_103 : decode cX6_numberOfAll 103 = .ok (.ireturn, 1) := by decide +kernel
theorem dX6_numberOfAll_104 : decode cX6_numberOfAll 104 = .ok (.aload_n 0, 1) := by decide +kernel
theorem dX6_numberOfAll_105 : decode cX6_numberOfAll 105 = .ok (.getfield 15, 3) := by decide +kernel
theorem dX6_numberOfAll_108 : decode cX6_numberOfAll 108 = .ok (.getfield 187, 3) := by decide +kernel
theorem dX6_numberOfAll_111 : decode cX6_numberOfAll 111 = .ok (.getfield 191, 3) := by decide +kernel
theorem dX6_numberOfAll_114 : decode cX6_numberOfAll 114 = .ok (.ireturn, 1) := by decide +kernel
theorem dX6_numberOfAll_115 : decode cX6_numberOfAll 115 = .ok (.aload_n 0, 1) := by decide +kernel
theorem dX6_numberOfAll_116 : decode cX6_numberOfAll 116 = .ok (.getfield 41, 3) := by decide +kernel
theorem dX6_numberOfAll_119 : decode cX6_numberOfAll 119 = .ok (.invokevirtual 233, 3) := by decide +kernel
theorem dX6_numberOfAll_122 : decode cX6_numberOfAll 122 = .ok (.ireturn, 1) := by decide +kernel
theorem dX6_numberOfAll_123 : decode cX6_numberOfAll 123 = .ok (.aload_n 0, 1) := by decide +kernel
theorem dX6_numberOfAll_124 : decode cX6_numberOfAll 124 = .ok (.getfield 15, 3) := by decide +kernel
theorem dX6_numberOfAll_127 : decode cX6_numberOfAll 127 = .ok (.invokevirtual 315, 3) := by decide +kernel
theorem dX6_numberOfAll_130 : decode cX6_numberOfAll 130 = .ok (.ireturn, 1) := by decide +kernel
theorem dX6_numberOfAll_131 : decode cX6_numberOfAll 131 = .ok (.aload_n 0, 1) := by decide +kernel
theorem dX6_numberOfAll_132 : decode cX6_numberOfAll 132 = .ok (.getfield 15, 3) := by decide +kernel
theorem dX6_numberOfAll_135 : decode cX6_numberOfAll 135 = .ok (.invokevirtual 118, 3) := by decide +kernel
theorem dX6_numberOfAll_138 : decode cX6_numberOfAll 138 = .ok (.ireturn, 1) := by decide +kernel
theorem dX6_numberOfAll_139 : decode cX6_numberOfAll 139 = .ok (.aload_n 0, 1) := by decide +kernel
theorem dX6_numberOfAll_140 : decode cX6_numberOfAll 140 = .ok (.getfield 15, 3) := by decide +kernel
theorem dX6_numberOfAll_143 : decode cX6_numberOfAll 143 = .ok (.invokevirtual 318, 3) := by decide +kernel
theorem dX6_numberOfAll_146 : decode cX6_numberOfAll 146 = .ok (.ireturn, 1) := by decide +kernel
theorem dX6_numberOfAll_147 : decode cX6_numberOfAll 147 = .ok (.aload_n 0, 1) := by decide +kernel
theorem dX6_numberOfAll_148 : decode cX6_numberOfAll 148 = .ok (.getfield 15, 3) := by decide +kernel
theorem dX6_numberOfAll_151 : decode cX6_numberOfAll 151 = .ok (.getfield 321, 3) := by decide +kernel
theorem dX6_numberOfAll_154 : decode cX6_numberOfAll 154 = .ok (.ireturn, 1) := by decide +kernel
theorem dX6_numberOfAll_155 : decode cX6_numberOfAll 155 = .ok (.aload_n 0, 1) := by decide +kernel
theorem dX6_numberOfAll_156 : decode cX6_numberOfAll 156 = .ok (.getfield 15, 3) := by decide +kernel
theorem dX6_numberOfAll_159 : decode cX6_numberOfAll 159 = .ok (.getfield 103, 3) := by decide +kernel
theorem dX6_numberOfAll_162 : decode cX6_numberOfAll 162 = .ok (.ireturn, 1) := by decide +kernel
theorem dX6_numberOfAll_163 : decode cX6_numberOfAll 163 = .ok (.aload_n 0, 1) := by decide +kernel
theorem dX6_numberOfAll_164 : decode cX6_numberOfAll 164 = .ok (.getfield 15, 3) := by decide +kernel
theorem dX6_numberOfAll_167 : decode cX6_numberOfAll 167 = .ok (.getfield 230, 3) := by decide +kernel
theorem dX6_numberOfAll_170 : decode cX6_numberOfAll 170 = .ok (.ireturn, 1) := by decide +kernel
theorem dX6_numberOfAll_171 : decode cX6_numberOfAll 171 = .ok (.aload_n 0, 1) := by decide +kernel
theorem dX6_numberOfAll_172 : decode cX6_numberOfAll 172 = .ok (.getfield 48, 3) := by decide +kernel
theorem dX6_numberOfAll_175 : decode cX6_numberOfAll 175 = .ok (.aload_n 0, 1) := by decide +kernel
theorem dX6_numberOfAll_176 : decode cX6_numberOfAll 176 = .ok (.getfield 15, 3) := by decide +kernel
theorem dX6_numberOfAll_179 : decode cX6_numberOfAll 179 = .ok (.invokevirtual 324, 3) := by decide +kernel
theorem dX6_numberOfAll_182 : decode cX6_numberOfAll 182 = .ok (.ireturn, 1) := by decide +kernel
theorem dX6_numberOfAll_183 : decode cX6_numberOfAll 183 = .ok (.aload_n 0, 1) := by decide +kernel
theorem dX6_numberOfAll_184 : decode cX6_numberOfAll 184 = .ok (.getfield 15, 3) := by decide +kernel
theorem dX6_numberOfAll_187 : decode cX6_numberOfAll 187 = .ok (.getfield 140, 3) := by decide +kernel
theorem dX6_numberOfAll_190 : decode cX6_numberOfAll 190 = .ok (.ireturn, 1) := by decide +kernel
theorem dX6_numberOfAll_191 : decode cX6_numberOfAll 191 = .ok (.aload_n 0, 1) := by decide +kernel
theorem dX6_numberOfAll_192 : decode cX6_numberOfAll 192 = .ok (.getfield 174, 3) := by decide +kernel
theorem dX6_numberOfAll_195 : decode cX6_numberOfAll 195 = .ok (.ireturn, 1) := by decide +kernel
theorem dX6_mostCrossed_0 : decode cX6_mostCrossed 0 = .ok (.iconst (-1), 1) := by decide +kernel
theorem dX6_mostCrossed_1 : decode cX6_mostCrossed 1 = .ok (.istore_n 1, 1) := by decide +kernel
theorem dX6_mostCrossed_2 : decode cX6_mostCrossed 2 = .ok (.iconst 0, 1) := by decide +kernel
theorem dX6_mostCrossed_3 : decode cX6_mostCrossed 3 = .ok (.istore_n 2, 1) := by decide +kernel
theorem dX6_mostCrossed_4 : decode cX6_mostCrossed 4 = .ok (.iconst 0, 1) := by decide +kernel
theorem dX6_mostCrossed_5 : decode cX6_mostCrossed 5 = .ok (.istore_n 3, 1) := by decide +kernel
theorem dX6_mostCrossed_6 : decode cX6_mostCrossed 6 = .ok (.iload_n 3, 1) := by decide +kernel
theorem dX6_mostCrossed_7 : decode cX6_mostCrossed 7 = .ok (.bipush 64, 2) := by decide +kernel
theorem dX6_mostCrossed_9 : decode cX6_mostCrossed 9 = .ok (.if_icmp .ge 46, 3) := by decide +kernel
theorem dX6_mostCrossed_12 : decode cX6_mostCrossed 12 = .ok (.aload_n 0, 1) := by decide +kernel
theorem dX6_mostCrossed_13 : decode cX6_mostCrossed 13 = .ok (.getfield 15, 3) := by decide +kernel
theorem dX6_mostCrossed_16 : decode cX6_mostCrossed 16 = .ok (.getfield 294, 3) := by decide +kernel
theorem dX6_mostCrossed_19 : decode cX6_mostCrossed 19 = .ok (.iload_n 3, 1) := by decide +kernel
theorem dX6_mostCrossed_20 : decode cX6_mostCrossed 20 = .ok (.baload, 1) := by decide +kernel
theorem dX6_mostCrossed_21 : decode cX6_mostCrossed 21 = .ok (.ifCond .ne 28, 3) := by decide +kernel
theorem dX6_mostCrossed_24 : decode cX6_mostCrossed 24 = .ok (.aload_n 0, 1) := by decide +kernel
theorem dX6_mostCrossed_25 : decode cX6_mostCrossed 25 = .ok (.getfield 41, 3) := by decide +kernel
theorem dX6_mostCrossed_28 : decode cX6_mostCrossed 28 = .ok (.getfield 300, 3) := by decide +kernel
theorem dX6_mostCrossed_31 : decode cX6_mostCrossed 31 = .ok (.iload_n 3, 1) := by decide +kernel
theorem dX6_mostCrossed_32 : decode cX6_mostCrossed 32 = .ok (.iaload, 1) := by decide +kernel
theorem dX6_mostCrossed_33 : decode cX6_mostCrossed 33 = .ok (.iload_n 2, 1) := by decide +kernel
theorem dX6_mostCrossed_34 : decode cX6_mostCrossed 34 = .ok (.if_icmp .le 15, 3) := by decide +kernel
theorem dX6_mostCrossed_37 : decode cX6_mostCrossed 37 = .ok (.aload_n 0, 1) := by decide +kernel
theorem dX6_mostCrossed_38 : decode cX6_mostCrossed 38 = .ok (.getfield 41, 3) := by decide +kernel
theorem dX6_mostCrossed_41 : decode cX6_mostCrossed 41 = .ok (.getfield 300, 3) := by decide +kernel
theorem dX6_mostCrossed_44 : decode cX6_mostCrossed 44 = .ok (.iload_n 3, 1) := by decide +kernel
theorem dX6_mostCrossed_45 : decode cX6_mostCrossed 45 = .ok (.iaload, 1) := by decide +kernel
theorem dX6_mostCrossed_46 : decode cX6_mostCrossed 46 = .ok (.istore_n 2, 1) := by decide +kernel
theorem dX6_mostCrossed_47 : decode cX6_mostCrossed 47 = .ok (.iload_n 3, 1) := by decide +kernel
theorem dX6_mostCrossed_48 : decode cX6_mostCrossed 48 = .ok (.istore_n 1, 1) := by decide +kernel
theorem dX6_mostCrossed_49 : decode cX6_mostCrossed 49 = .ok (.iinc 3 1, 3) := by decide +kernel
theorem dX6_mostCrossed_52 : decode cX6_mostCrossed 52 = .ok (.goto (-46), 3) := by decide +kernel
theorem dX6_mostCrossed_55 : decode cX6_mostCrossed 55 = .ok (.iload_n 1, 1) := by decide +kernel
theorem dX6_mostCrossed_56 : decode cX6_mostCrossed 56 = .ok (.ireturn, 1) := by decide +kernel
theorem lg_wsX6_tryBeats_0 : GoodIn wsX6_tryBeats wsX6_tryBeats_r1 := goodIn_sub (fun _ h => (List.mem_cons_of_mem _ (List.mem_append_left _ (List.mem_append_left _ (List.mem_append_left _ (List.mem_append_left _ (List.mem_append_left _ h))))))) (by decide +kernel)
theorem lg_wsX6_tryBeats_1 : GoodIn wsX6_tryBeats wsX6_tryBeats_r2 := goodIn_sub (fun _ h => (List.mem_cons_of_mem _ (List.mem_append_left _ (List.mem_append_left _ (List.mem_append_left _ (List.mem_append_left _ (List.mem_append_right _ (List.mem_append_left _ h)))))))) (by decide +kernel)
theorem lg_wsX6_tryBeats_2 : GoodIn wsX6_tryBeats wsX6_tryBeats_r3 := goodIn_sub (fun _ h => (List.mem_cons_of_mem _ (List.mem_append_left _ (List.mem_append_left _ (List.mem_append_left _ (List.mem_append_left _ (List.mem_append_right _ (List.mem_append_right _ (List.mem_append_left _ h))))))))) (by decide +kernel)
theorem lg_wsX6_tryBeats_3 : GoodIn wsX6_tryBeats wsX6_tryBeats_r4 := goodIn_sub (fun _ h => (List.mem_cons_of_mem _ (List.mem_append_left _ (List.mem_append_left _ (List.mem_append_left _ (List.mem_append_left _ (List.mem_append_right _ (List.mem_append_right _ (List.mem_append_right _ (List.mem_append_left _ h)))))))))) (by decide +kernel)
theorem lg_wsX6_tryBeats_4 : GoodIn wsX6_tryBeats wsX6_tryBeats_r5 := goodIn_sub (fun _ h => (List.mem_cons_of_mem _ (List.mem_append_left _ (List.mem_append_left _ (List.mem_append_left _ (List.mem_append_left _ (List.mem_append_right _ (List.mem_append_right _ (List.mem_append_right _ (List.mem_append_right _ (List.mem_append_left _ h))))))))))) (by decide +kernel)
theorem lg_wsX6_tryBeats_5 : GoodIn wsX6_tryBeats wsX6_tryBeats_r6 := goodIn_sub (fun _ h => (List.mem_cons_of_mem _ (List.mem_append_left _ (List.mem_append_left _ (List.mem_append_left _ (List.mem_append_left _ (List.mem_append_right _ (List.mem_append_right _ (List.mem_append_right _ (List.mem_append_right _ (List.mem_append_right _ h))))))))))) (by decide +kernel)
theorem ls_wsX6_tryBeats_0 : GoodIn wsX6_tryBeats wsX60 := goodIn_sub (fun _ h => (List.mem_cons_of_mem _ (List.mem_append_left _ (List.mem_append_left _ (List.mem_append_left _ (List.mem_append_right _ h)))))) (by decide +kernel)
theorem ls_wsX6_tryBeats_1 : GoodIn wsX6_tryBeats wsX00 := goodIn_sub (fun _ h => (List.mem_cons_of_mem _ (List.mem_append_left _ (List.mem_append_left _ (List.mem_append_right _ h))))) (by decide +kernel)
theorem ls_wsX6_tryBeats_2 : GoodIn wsX6_tryBeats wsX30 := goodIn_sub (fun _ h => (List.mem_cons_of_mem _ (List.mem_append_left _ (List.mem_append_right _ h)))) (by decide +kernel)
theorem ls_wsX6_tryBeats_3 : GoodIn wsX6_tryBeats wsX10 := goodIn_sub (fun _ h => (List.mem_cons_of_mem _ (List.mem_append_right _ h))) (by decide +kernel)
set_option maxRecDepth 20000 in
theorem ggX6_tryBeats_X0_copyFrom : GoodIn wsX6_tryBeats wsX0_copyFrom := (gi_cons (lg_wsX6_tryBeats_0 _ (List.mem_of_getElem? (i := 6) rfl)) (goodIn_app (goodIn_app (goodIn_app (goodIn_app (gi_cons (lg_wsX6_tryBeats_0 _ (List.mem_of_getElem? (i := 7) rfl)) (gi_cons (lg_wsX6_tryBeats_0 _ (List.mem_of_getElem? (i := 8) rfl)) (gi_cons (lg_wsX6_tryBeats_0 _ (List.mem_of_getElem? (i := 9) rfl)) (gi_cons (lg_wsX6_tryBeats_0 _ (List.mem_of_getElem? (i := 10) rfl)) (gi_cons (lg_wsX6_tryBeats_0 _ (List.mem_of_getElem? (i := 11) rfl)) (gi_cons (lg_wsX6_tryBeats_0 _ (List.mem_of_getElem? (i := 12) rfl)) (gi_cons (lg_wsX6_tryBeats_0 _ (List.mem_of_getElem? (i := 13) rfl)) (gi_cons (lg_wsX6_tryBeats_0 _ (List.mem_of_getElem? (i := 14) rfl)) (gi_cons (lg_wsX6_tryBeats_0 _ (List.mem_of_getElem? (i := 15) rfl)) (gi_cons (lg_wsX6_tryBeats_0 _ (List.mem_of_getElem? (i := 16) rfl)) (gi_cons (lg_wsX6_tryBeats_0 _ (List.mem_of_getElem? (i := 17) rfl)) (gi_cons (lg_wsX6_tryBeats_0 _ (List.mem_of_getElem? (i := 18) rfl)) (gi_cons (lg_wsX6_tryBeats_0 _ (List.mem_of_getElem? (i := 19) rfl)) (gi_cons (lg_wsX6_tryBeats_0 _ (List.mem_of_getElem? (i := 20) rfl)) (gi_cons (lg_wsX6_tryBeats_0 _ (List.mem_of_getElem? (i := 21) rfl)) (gi_cons (lg_wsX6_tryBeats_0 _ (List.mem_of_getElem? (i := 22) rfl)) (gi_cons (lg_wsX6_tryBeats_0 _ (List.mem_of_getElem? (i := 23) rfl)) (gi_cons (lg_wsX6_tryBeats_1 _ (List.mem_of_getElem? (i := 0) rfl)) (gi_cons (lg_wsX6_tryBeats_1 _ (List.mem_of_getElem? (i := 1) rfl)) (gi_cons (lg_wsX6_tryBeats_1 _ (List.mem_of_getElem? (i := 2) rfl)) (gi_cons (lg_wsX6_tryBeats_1 _ (List.mem_of_getElem? (i := 3) rfl)) (gi_cons (lg_wsX6_tryBeats_1 _ (List.mem_of_getElem? (i := 4) rfl)) (gi_cons (lg_wsX6_tryBeats_1 _ (List.mem_of_getElem? (i := 5) rfl)) (gi_cons (lg_wsX6_tryBeats_1 _ (List.mem_of_getElem? (i := 6) rfl)) gi_nil)))))))))))))))))))))))) (gi_cons (lg_wsX6_tryBeats_1 _ (List.mem_of_getElem? (i := 7) rfl)) (gi_cons (lg_wsX6_tryBeats_1 _ (List.mem_of_getElem? (i := 8) rfl)) (gi_cons (lg_wsX6_tryBeats_1 _ (List.mem_of_getElem? (i := 9) rfl)) (gi_cons (lg_wsX6_tryBeats_1 _ (List.mem_of_getElem? (i := 10) rfl)) (gi_cons (lg_wsX6_tryBeats_1 _ (List.mem_of_getElem? (i := 11) rfl)) (gi_cons (lg_wsX6_tryBeats_1 _ (List.mem_of_getElem? (i := 12) rfl)) (gi_cons (lg_wsX6_tryBeats_1 _ (List.mem_of_getElem? (i := 13) rfl)) (gi_cons (lg_wsX6_tryBeats_1 _ (List.mem_of_getElem? (i := 14) rfl)) (gi_cons (lg_wsX6_tryBeats_1 _ (List.mem_of_getElem? (i := 15) rfl)) (gi_cons (lg_wsX6_tryBeats_1 _ (List.mem_of_getElem? (i := 16) rfl)) (gi_cons (lg_wsX6_tryBeats_1 _ (List.mem_of_getElem? (i := 17) rfl)) (gi_cons (lg_wsX6_tryBeats_1 _ (List.mem_of_getElem? (i := 18) rfl)) (gi_cons (lg_wsX6_tryBeats_1 _ (List.mem_of_getElem? (i := 19) rfl)) (gi_cons (lg_wsX6_tryBeats_1 _ (List.mem_of_getElem? (i := 20) rfl)) (gi_cons (lg_wsX6_tryBeats_1 _ (List.mem_of_getElem? (i := 21) rfl)) gi_nil)))))))))))))))) ls_wsX6_tryBeats_1) ls_wsX6_tryBeats_2) ls_wsX6_tryBeats_3))
set_option maxRecDepth 20000 in
theorem gX6_tryBeats_X0_copyFrom : GoodIn wsX6_tryBeats (wsV RX6 179 RX0 yX0_copyFrom wsX0_copyFrom) := goodIn_app (gi_cons (lg_wsX6_tryBeats_0 _ (List.mem_of_getElem? (i := 2) rfl)) (gi_cons (lg_wsX6_tryBeats_0 _ (List.mem_of_getElem? (i := 3) rfl)) (gi_cons (lg_wsX6_tryBeats_0 _ (List.mem_of_getElem? (i := 4) rfl)) (gi_cons (lg_wsX6_tryBeats_0 _ (List.mem_of_getElem? (i := 5) rfl)) gi_nil)))) ggX6_tryBeats_X0_copyFrom
set_option maxRecDepth 20000 in
theorem ggX6_tryBeats_X0_beat : GoodIn wsX6_tryBeats wsX0_beat := (gi_cons (lg_wsX6_tryBeats_2 _ (List.mem_of_getElem? (i := 1) rfl)) (goodIn_app (goodIn_app (goodIn_app (goodIn_app (gi_cons (lg_wsX6_tryBeats_0 _ (List.mem_of_getElem? (i := 19) rfl)) (gi_cons (lg_wsX6_tryBeats_0 _ (List.mem_of_getElem? (i := 14) rfl)) (gi_cons (lg_wsX6_tryBeats_0 _ (List.mem_of_getElem? (i := 16) rfl)) (gi_cons (lg_wsX6_tryBeats_2 _ (List.mem_of_getElem? (i := 2) rfl)) (gi_cons (lg_wsX6_tryBeats_2 _ (List.mem_of_getElem? (i := 3) rfl)) (gi_cons (lg_wsX6_tryBeats_2 _ (List.mem_of_getElem? (i := 4) rfl)) (gi_cons (lg_wsX6_tryBeats_0 _ (List.mem_of_getElem? (i := 5) rfl)) (gi_cons (lg_wsX6_tryBeats_2 _ (List.mem_of_getElem? (i := 5) rfl)) (gi_cons (lg_wsX6_tryBeats_0 _ (List.mem_of_getElem? (i := 17) rfl)) (gi_cons (lg_wsX6_tryBeats_2 _ (List.mem_of_getElem? (i := 6) rfl)) (gi_cons (lg_wsX6_tryBeats_2 _ (List.mem_of_getElem? (i := 7) rfl)) (gi_cons (lg_wsX6_tryBeats_2 _ (List.mem_of_getElem? (i := 8) rfl)) (gi_cons (lg_wsX6_tryBeats_0 _ (List.mem_of_getElem? (i := 9) rfl)) (gi_cons (lg_wsX6_tryBeats_0 _ (List.mem_of_getElem? (i := 21) rfl)) (gi_cons (lg_wsX6_tryBeats_0 _ (List.mem_of_getElem? (i := 7) rfl)) (gi_cons (lg_wsX6_tryBeats_0 _ (List.mem_of_getElem? (i := 18) rfl)) (gi_cons (lg_wsX6_tryBeats_2 _ (List.mem_of_getElem? (i := 9) rfl)) (gi_cons (lg_wsX6_tryBeats_2 _ (List.mem_of_getElem? (i := 10) rfl)) (gi_cons (lg_wsX6_tryBeats_2 _ (List.mem_of_getElem? (i := 11) rfl)) (gi_cons (lg_wsX6_tryBeats_1 _ (List.mem_of_getElem? (i := 13) rfl)) (gi_cons (lg_wsX6_tryBeats_2 _ (List.mem_of_getElem? (i := 12) rfl)) (gi_cons (lg_wsX6_tryBeats_1 _ (List.mem_of_getElem? (i := 21) rfl)) (gi_cons (lg_wsX6_tryBeats_1 _ (List.mem_of_getElem? (i := 16) rfl)) (gi_cons (lg_wsX6_tryBeats_2 _ (List.mem_of_getElem? (i := 13) rfl)) gi_nil)))))))))))))))))))))))) (goodIn_app (gi_cons (lg_wsX6_tryBeats_2 _ (List.mem_of_getElem? (i := 14) rfl)) (gi_cons (lg_wsX6_tryBeats_2 _ (List.mem_of_getElem? (i := 15) rfl)) (gi_cons (lg_wsX6_tryBeats_2 _ (List.mem_of_getElem? (i := 16) rfl)) (gi_cons (lg_wsX6_tryBeats_2 _ (List.mem_of_getElem? (i := 17) rfl)) (gi_cons (lg_wsX6_tryBeats_2 _ (List.mem_of_getElem? (i := 18) rfl)) (gi_cons (lg_wsX6_tryBeats_2 _ (List.mem_of_getElem? (i := 19) rfl)) (gi_cons (lg_wsX6_tryBeats_2 _ (List.mem_of_getElem? (i := 20) rfl)) (gi_cons (lg_wsX6_tryBeats_2 _ (List.mem_of_getElem? (i := 21) rfl)) (gi_cons (lg_wsX6_tryBeats_2 _ (List.mem_of_getElem? (i := 22) rfl)) (gi_cons (lg_wsX6_tryBeats_2 _ (List.mem_of_getElem? (i := 23) rfl)) (gi_cons (lg_wsX6_tryBeats_3 _ (List.mem_of_getElem? (i := 0) rfl)) (gi_cons (lg_wsX6_tryBeats_1 _ (List.mem_of_getElem? (i := 15) rfl)) (gi_cons (lg_wsX6_tryBeats_1 _ (List.mem_of_getElem? (i := 19) rfl)) (gi_cons (lg_wsX6_tryBeats_3 _ (List.mem_of_getElem? (i := 1) rfl)) (gi_cons (lg_wsX6_tryBeats_3 _ (List.mem_of_getElem? (i := 2) rfl)) (gi_cons (lg_wsX6_tryBeats_3 _ (List.mem_of_getElem? (i := 3) rfl)) (gi_cons (lg_wsX6_tryBeats_3 _ (List.mem_of_getElem? (i := 4) rfl)) (gi_cons (lg_wsX6_tryBeats_1 _ (List.mem_of_getElem? (i := 18) rfl)) (gi_cons (lg_wsX6_tryBeats_3 _ (List.mem_of_getElem? (i := 5) rfl)) (gi_cons (lg_wsX6_tryBeats_3 _ (List.mem_of_getElem? (i := 6) rfl)) (gi_cons (lg_wsX6_tryBeats_3 _ (List.mem_of_getElem? (i := 7) rfl)) (gi_cons (lg_wsX6_tryBeats_3 _ (List.mem_of_getElem? (i := 8) rfl)) (gi_cons (lg_wsX6_tryBeats_0 _ (List.mem_of_getElem? (i := 20) rfl)) (gi_cons (lg_wsX6_tryBeats_3 _ (List.mem_of_getElem? (i := 9) rfl)) gi_nil)))))))))))))))))))))))) (goodIn_app (gi_cons (lg_wsX6_tryBeats_3 _ (List.mem_of_getElem? (i := 10) rfl)) (gi_cons (lg_wsX6_tryBeats_3 _ (List.mem_of_getElem? (i := 11) rfl)) (gi_cons (lg_wsX6_tryBeats_3 _ (List.mem_of_getElem? (i := 12) rfl)) (gi_cons (lg_wsX6_tryBeats_0 _ (List.mem_of_getElem? (i := 15) rfl)) (gi_cons (lg_wsX6_tryBeats_3 _ (List.mem_of_getElem? (i := 13) rfl)) (gi_cons (lg_wsX6_tryBeats_3 _ (List.mem_of_getElem? (i := 14) rfl)) (gi_cons (lg_wsX6_tryBeats_3 _ (List.mem_of_getElem? (i := 15) rfl)) (gi_cons (lg_wsX6_tryBeats_3 _ (List.mem_of_getElem? (i := 16) rfl)) (gi_cons (lg_wsX6_tryBeats_3 _ (List.mem_of_getElem? (i := 17) rfl)) (gi_cons (lg_wsX6_tryBeats_3 _ (List.mem_of_getElem? (i := 18) rfl)) (gi_cons (lg_wsX6_tryBeats_3 _ (List.mem_of_getElem? (i := 19) rfl)) (gi_cons (lg_wsX6_tryBeats_3 _ (List.mem_of_getElem? (i := 20) rfl)) (gi_cons (lg_wsX6_tryBeats_1 _ (List.mem_of_getElem? (i := 3) rfl)) (gi_cons (lg_wsX6_tryBeats_3 _ (List.mem_of_getElem? (i := 21) rfl)) (gi_cons (lg_wsX6_tryBeats_1 _ (List.mem_of_getElem? (i := 6) rfl)) (gi_cons (lg_wsX6_tryBeats_1 _ (List.mem_of_getElem? (i := 9) rfl)) (gi_cons (lg_wsX6_tryBeats_1 _ (List.mem_of_getElem? (i := 7) rfl)) (gi_cons (lg_wsX6_tryBeats_1 _ (List.mem_of_getElem? (i := 5) rfl)) (gi_cons (lg_wsX6_tryBeats_1 _ (List.mem_of_getElem? (i := 8) rfl)) (gi_cons (lg_wsX6_tryBeats_0 _ (List.mem_of_getElem? (i := 11) rfl)) (gi_cons (lg_wsX6_tryBeats_0 _ (List.mem_of_getElem? (i := 12) rfl)) (gi_cons (lg_wsX6_tryBeats_0 _ (List.mem_of_getElem? (i := 13) rfl)) (gi_cons (lg_wsX6_tryBeats_3 _ (List.mem_of_getElem? (i := 22) rfl)) (gi_cons (lg_wsX6_tryBeats_3 _ (List.mem_of_getElem? (i := 23) rfl)) gi_nil)))))))))))))))))))))))) (goodIn_app (gi_cons (lg_wsX6_tryBeats_4 _ (List.mem_of_getElem? (i := 0) rfl)) (gi_cons (lg_wsX6_tryBeats_4 _ (List.mem_of_getElem? (i := 1) rfl)) (gi_cons (lg_wsX6_tryBeats_4 _ (List.mem_of_getElem? (i := 2) rfl)) (gi_cons (lg_wsX6_tryBeats_4 _ (List.mem_of_getElem? (i := 3) rfl)) (gi_cons (lg_wsX6_tryBeats_4 _ (List.mem_of_getElem? (i := 4) rfl)) (gi_cons (lg_wsX6_tryBeats_4 _ (List.mem_of_getElem? (i := 5) rfl)) (gi_cons (lg_wsX6_tryBeats_0 _ (List.mem_of_getElem? (i := 22) rfl)) (gi_cons (lg_wsX6_tryBeats_4 _ (List.mem_of_getElem? (i := 6) rfl)) (gi_cons (lg_wsX6_tryBeats_4 _ (List.mem_of_getElem? (i := 7) rfl)) (gi_cons (lg_wsX6_tryBeats_4 _ (List.mem_of_getElem? (i := 8) rfl)) (gi_cons (lg_wsX6_tryBeats_4 _ (List.mem_of_getElem? (i := 9) rfl)) (gi_cons (lg_wsX6_tryBeats_4 _ (List.mem_of_getElem? (i := 10) rfl)) (gi_cons (lg_wsX6_tryBeats_4 _ (List.mem_of_getElem? (i := 11) rfl)) (gi_cons (lg_wsX6_tryBeats_4 _ (List.mem_of_getElem? (i := 12) rfl)) (gi_cons (lg_wsX6_tryBeats_4 _ (List.mem_of_getElem? (i := 13) rfl)) (gi_cons (lg_wsX6_tryBeats_4 _ (List.mem_of_getElem? (i := 14) rfl)) (gi_cons (lg_wsX6_tryBeats_4 _ (List.mem_of_getElem? (i := 15) rfl)) (gi_cons (lg_wsX6_tryBeats_4 _ (List.mem_of_getElem? (i := 16) rfl)) (gi_cons (lg_wsX6_tryBeats_4 _ (List.mem_of_getElem? (i := 17) rfl)) (gi_cons (lg_wsX6_tryBeats_4 _ (List.mem_of_getElem? (i := 18) rfl)) (gi_cons (lg_wsX6_tryBeats_4 _ (List.mem_of_getElem? (i := 19) rfl)) (gi_cons (lg_wsX6_tryBeats_4 _ (List.mem_of_getElem? (i := 20) rfl)) (gi_cons (lg_wsX6_tryBeats_4 _ (List.mem_of_getElem? (i := 21) rfl)) (gi_cons (lg_wsX6_tryBeats_4 _ (List.mem_of_getElem? (i := 22) rfl)) gi_nil)))))))))))))))))))))))) (gi_cons (lg_wsX6_tryBeats_4 _ (List.mem_of_getElem? (i := 23) rfl)) (gi_cons (lg_wsX6_tryBeats_5 _ (List.mem_of_getElem? (i := 0) rfl)) (gi_cons (lg_wsX6_tryBeats_5 _ (List.mem_of_getElem? (i := 1) rfl)) (gi_cons (lg_wsX6_tryBeats_5 _ (List.mem_of_getElem? (i := 2) rfl)) (gi_cons (lg_wsX6_tryBeats_5 _ (List.mem_of_getElem? (i := 3) rfl)) (gi_cons (lg_wsX6_tryBeats_5 _ (List.mem_of_getElem? (i := 4) rfl)) (gi_cons (lg_wsX6_tryBeats_5 _ (List.mem_of_getElem? (i := 5) rfl)) (gi_cons (lg_wsX6_tryBeats_5 _ (List.mem_of_getElem? (i := 6) rfl)) (gi_cons (lg_wsX6_tryBeats_5 _ (List.mem_of_getElem? (i := 7) rfl)) (gi_cons (lg_wsX6_tryBeats_5 _ (List.mem_of_getElem? (i := 8) rfl)) (gi_cons (lg_wsX6_tryBeats_5 _ (List.mem_of_getElem? (i := 9) rfl)) (gi_cons (lg_wsX6_tryBeats_5 _ (List.mem_of_getElem? (i := 10) rfl)) (gi_cons (lg_wsX6_tryBeats_1 _ (List.mem_of_getElem? (i := 0) rfl)) (gi_cons (lg_wsX6_tryBeats_1 _ (List.mem_of_getElem? (i := 1) rfl)) (gi_cons (lg_wsX6_tryBeats_1 _ (List.mem_of_getElem? (i := 2) rfl)) (gi_cons (lg_wsX6_tryBeats_1 _ (List.mem_of_getElem? (i := 4) rfl)) (gi_cons (lg_wsX6_tryBeats_5 _ (List.mem_of_getElem? (i := 11) rfl)) (gi_cons (lg_wsX6_tryBeats_5 _ (List.mem_of_getElem? (i := 12) rfl)) (gi_cons (lg_wsX6_tryBeats_5 _ (List.mem_of_getElem? (i := 13) rfl)) (gi_cons (lg_wsX6_tryBeats_5 _ (List.mem_of_getElem? (i := 14) rfl)) gi_nil)))))))))))))))))))))))) ls_wsX6_tryBeats_1) ls_wsX6_tryBeats_3) ls_wsX6_tryBeats_2))
set_option maxRecDepth 20000 in
theorem gX6_tryBeats_X0_beat : GoodIn wsX6_tryBeats (wsV RX6 106 RX0 yX0_beat wsX0_beat) := goodIn_app (gi_cons (lg_wsX6_tryBeats_1 _ (List.mem_of_getElem? (i := 22) rfl)) (gi_cons (lg_wsX6_tryBeats_1 _ (List.mem_of_getElem? (i := 23) rfl)) (gi_cons (lg_wsX6_tryBeats_2 _ (List.mem_of_getElem? (i := 0) rfl)) (gi_cons (lg_wsX6_tryBeats_0 _ (List.mem_of_getElem? (i := 5) rfl)) gi_nil)))) ggX6_tryBeats_X0_beat
theorem dX6_tryBeats_0 : decode cX6_tryBeats 0 = .ok (.aload_n 0, 1) := by decide +kernel
theorem dX6_tryBeats_1 : decode cX6_tryBeats 1 = .ok (.getfield 24, 3) := by decide +kernel
theorem dX6_tryBeats_4 : decode cX6_tryBeats 4 = .ok (.aload_n 0, 1) := by decide +kernel
theorem dX6_tryBeats_5 : decode cX6_tryBeats 5 = .ok (.getfield 15, 3) := by decide +kernel
theorem dX6_tryBeats_8 : decode cX6_tryBeats 8 = .ok (.invokevirtual 179, 3) := by decide +kernel
theorem dX6_tryBeats_11 : decode cX6_tryBeats 11 = .ok (.iconst 0, 1) := by decide +kernel
theorem dX6_tryBeats_12 : decode cX6_tryBeats 12 = .ok (.istore_n 2, 1) := by decide +kernel
theorem dX6_tryBeats_13 : decode cX6_tryBeats 13 = .ok (.iload_n 2, 1) := by decide +kernel
theorem dX6_tryBeats_14 : decode cX6_tryBeats 14 = .ok (.iload_n 1, 1) := by decide +kernel
theorem dX6_tryBeats_15 : decode cX6_tryBeats 15 = .ok (.if_icmp .ge 16, 3) := by decide +kernel
theorem dX6_tryBeats_18 : decode cX6_tryBeats 18 = .ok (.aload_n 0, 1) := by decide +kernel
theorem dX6_tryBeats_19 : decode cX6_tryBeats 19 = .ok (.getfield 24, 3) := by decide +kernel
theorem dX6_tryBeats_22 : decode cX6_tryBeats 22 = .ok (.invokevirtual 106, 3) := by decide +kernel
theorem dX6_tryBeats_25 : decode cX6_tryBeats 25 = .ok (.iinc 2 1, 3) := by decide +kernel
theorem dX6_tryBeats_28 : decode cX6_tryBeats 28 = .ok (.goto (-15), 3) := by decide +kernel
theorem dX6_tryBeats_31 : decode cX6_tryBeats 31 = .ok (.return_, 1) := by decide +kernel
theorem dX6_numberOfTrial_0 : decode cX6_numberOfTrial 0 = .ok (.iload_n 1, 1) := by decide +kernel
theorem dX6_numberOfTrial_1 : decode cX6_numberOfTrial 1 = .ok (.lookupswitch 54 #[(0, 27), (1, 43)], 27) := by decide +kernel
theorem dX6_numberOfTrial_28 : decode cX6_numberOfTrial 28 = .ok (.aload_n 0, 1) := by decide +kernel
theorem dX6_numberOfTrial_29 : decode cX6_numberOfTrial 29 = .ok (.getfield 24, 3) := by decide +kernel
theorem dX6_numberOfTrial_32 : decode cX6_numberOfTrial 32 = .ok (.getfield 103, 3) := by decide +kernel
theorem dX6_numberOfTrial_35 : decode cX6_numberOfTrial 35 = .ok (.aload_n 0, 1) := by decide +kernel
theorem dX6_numberOfTrial_36 : decode cX6_numberOfTrial 36 = .ok (.getfield 15, 3) := by decide +kernel
theorem dX6_numberOfTrial_39 : decode cX6_numberOfTrial 39 = .ok (.getfield 103, 3) := by decide +kernel
theorem dX6_numberOfTrial_42 : decode cX6_numberOfTrial 42 = .ok (.isub, 1) := by decide +kernel
theorem dX6_numberOfTrial_43 : decode cX6_numberOfTrial 43 = .ok (.ireturn, 1) := by decide +kernel
theorem dX6_numberOfTrial_44 : decode cX6_numberOfTrial 44 = .ok (.aload_n 0, 1) := by decide +kernel
theorem dX6_numberOfTrial_45 : decode cX6_numberOfTrial 45 = .ok (.getfield 24, 3) := by decide +kernel
theorem dX6_numberOfTrial_48 : decode cX6_numberOfTrial 48 = .ok (.getfield 187, 3) := by decide +kernel
theorem dX6_numberOfTrial_51 : decode cX6_numberOfTrial 51 = .ok (.getfield 191, 3) := by decide +kernel
theorem dX6_numberOfTrial_54 : decode cX6_numberOfTrial 54 = .ok (.ireturn, 1) := by decide +kernel
theorem dX6_numberOfTrial_55 : decode cX6_numberOfTrial 55 = .ok (.aload_n 0, 1) := by decide +kernel
theorem dX6_numberOfTrial_56 : decode cX6_numberOfTrial 56 = .ok (.getfield 24, 3) := by decide +kernel
theorem dX6_numberOfTrial_59 : decode cX6_numberOfTrial 59 = .ok (.getfield 309, 3) := by decide +kernel
theorem dX6_numberOfTrial_62 : decode cX6_numberOfTrial 62 = .ok (.aload_n 0, 1) := by decide +kernel
theorem dX6_numberOfTrial_63 : decode cX6_numberOfTrial 63 = .ok (.getfield 15, 3) := by decide +kernel
theorem dX6_numberOfTrial_66 : decode cX6_numberOfTrial 66 = .ok (.getfield 309, 3) := by decide +kernel
theorem dX6_numberOfTrial_69 : decode cX6_numberOfTrial 69 = .ok (.isub, 1) := by decide +kernel
theorem dX6_numberOfTrial_70 : decode cX6_numberOfTrial 70 = .ok (.ireturn, 1) := by decide +kernel
theorem lg_wsX6_beatsToMound_0 : GoodIn wsX6_beatsToMound wsX6_beatsToMound_r1 := goodIn_sub (fun _ h => (List.mem_cons_of_mem _ (List.mem_append_left _ (List.mem_append_left _ (List.mem_append_left _ (List.mem_append_left _ (List.mem_append_left _ h))))))) (by decide +kernel)
theorem lg_wsX6_beatsToMound_1 : GoodIn wsX6_beatsToMound wsX6_beatsToMound_r2 := goodIn_sub (fun _ h => (List.mem_cons_of_mem _ (List.mem_append_left _ (List.mem_append_left _ (List.mem_append_left _ (List.mem_append_left _ (List.mem_append_right _ (List.mem_append_left _ h)))))))) (by decide +kernel)
theorem lg_wsX6_beatsToMound_2 : GoodIn wsX6_beatsToMound wsX6_beatsToMound_r3 := goodIn_sub (fun _ h => (List.mem_cons_of_mem _ (List.mem_append_left _ (List.mem_append_left _ (List.mem_append_left _ (List.mem_append_left _ (List.mem_append_right _ (List.mem_append_right _ (List.mem_append_left _ h))))))))) (by decide +kernel)
theorem lg_wsX6_beatsToMound_3 : GoodIn wsX6_beatsToMound wsX6_beatsToMound_r4 := goodIn_sub (fun _ h => (List.mem_cons_of_mem _ (List.mem_append_left _ (List.mem_append_left _ (List.mem_append_left _ (List.mem_append_left _ (List.mem_append_right _ (List.mem_append_right _ (List.mem_append_right _ (List.mem_append_left _ h)))))))))) (by decide +kernel)
theorem lg_wsX6_beatsToMound_4 : GoodIn wsX6_beatsToMound wsX6_beatsToMound_r5 := goodIn_sub (fun _ h => (List.mem_cons_of_mem _ (List.mem_append_left _ (List.mem_append_left _ (List.mem_append_left _ (List.mem_append_left _ (List.mem_append_right _ (List.mem_append_right _ (List.mem_append_right _ (List.mem_append_right _ (List.mem_append_left _ h))))))))))) (by decide +kernel)
theorem lg_wsX6_beatsToMound_5 : GoodIn wsX6_beatsToMound wsX6_beatsToMound_r6 := goodIn_sub (fun _ h => (List.mem_cons_of_mem _ (List.mem_append_left _ (List.mem_append_left _ (List.mem_append_left _ (List.mem_append_left _ (List.mem_append_right _ (List.mem_append_right _ (List.mem_append_right _ (List.mem_append_right _ (List.mem_append_right _ h))))))))))) (by decide +kernel)
theorem ls_wsX6_beatsToMound_0 : GoodIn wsX6_beatsToMound wsX60 := goodIn_sub (fun _ h => (List.mem_cons_of_mem _ (List.mem_append_left _ (List.mem_append_left _ (List.mem_append_left _ (List.mem_append_right _ h)))))) (by decide +kernel)
theorem ls_wsX6_beatsToMound_1 : GoodIn wsX6_beatsToMound wsX00 := goodIn_sub (fun _ h => (List.mem_cons_of_mem _ (List.mem_append_left _ (List.mem_append_left _ (List.mem_append_right _ h))))) (by decide +kernel)
theorem ls_wsX6_beatsToMound_2 : GoodIn wsX6_beatsToMound wsX30 := goodIn_sub (fun _ h => (List.mem_cons_of_mem _ (List.mem_append_left _ (List.mem_append_right _ h)))) (by decide +kernel)
theorem ls_wsX6_beatsToMound_3 : GoodIn wsX6_beatsToMound wsX10 := goodIn_sub (fun _ h => (List.mem_cons_of_mem _ (List.mem_append_right _ h))) (by decide +kernel)
set_option maxRecDepth 20000 in
theorem ggX6_beatsToMound_X0_copyFrom : GoodIn wsX6_beatsToMound wsX0_copyFrom := (gi_cons (lg_wsX6_beatsToMound_0 _ (List.mem_of_getElem? (i := 7) rfl)) (goodIn_app (goodIn_app (goodIn_app (goodIn_app (gi_cons (lg_wsX6_beatsToMound_0 _ (List.mem_of_getElem? (i := 8) rfl)) (gi_cons (lg_wsX6_beatsToMound_0 _ (List.mem_of_getElem? (i := 9) rfl)) (gi_cons (lg_wsX6_beatsToMound_0 _ (List.mem_of_getElem? (i := 10) rfl)) (gi_cons (lg_wsX6_beatsToMound_0 _ (List.mem_of_getElem? (i := 11) rfl)) (gi_cons (lg_wsX6_beatsToMound_0 _ (List.mem_of_getElem? (i := 12) rfl)) (gi_cons (lg_wsX6_beatsToMound_0 _ (List.mem_of_getElem? (i := 13) rfl)) (gi_cons (lg_wsX6_beatsToMound_0 _ (List.mem_of_getElem? (i := 14) rfl)) (gi_cons (lg_wsX6_beatsToMound_0 _ (List.mem_of_getElem? (i := 15) rfl)) (gi_cons (lg_wsX6_beatsToMound_0 _ (List.mem_of_getElem? (i := 16) rfl)) (gi_cons (lg_wsX6_beatsToMound_0 _ (List.mem_of_getElem? (i := 17) rfl)) (gi_cons (lg_wsX6_beatsToMound_0 _ (List.mem_of_getElem? (i := 18) rfl)) (gi_cons (lg_wsX6_beatsToMound_0 _ (List.mem_of_getElem? (i := 19) rfl)) (gi_cons (lg_wsX6_beatsToMound_0 _ (List.mem_of_getElem? (i := 20) rfl)) (gi_cons (lg_wsX6_beatsToMound_0 _ (List.mem_of_getElem? (i := 21) rfl)) (gi_cons (lg_wsX6_beatsToMound_0 _ (List.mem_of_getElem? (i := 22) rfl)) (gi_cons (lg_wsX6_beatsToMound_0 _ (List.mem_of_getElem? (i := 23) rfl)) (gi_cons (lg_wsX6_beatsToMound_1 _ (List.mem_of_getElem? (i := 0) rfl)) (gi_cons (lg_wsX6_beatsToMound_1 _ (List.mem_of_getElem? (i := 1) rfl)) (gi_cons (lg_wsX6_beatsToMound_1 _ (List.mem_of_getElem? (i := 2) rfl)) (gi_cons (lg_wsX6_beatsToMound_1 _ (List.mem_of_getElem? (i := 3) rfl)) (gi_cons (lg_wsX6_beatsToMound_1 _ (List.mem_of_getElem? (i := 4) rfl)) (gi_cons (lg_wsX6_beatsToMound_1 _ (List.mem_of_getElem? (i := 5) rfl)) (gi_cons (lg_wsX6_beatsToMound_1 _ (List.mem_of_getElem? (i := 6) rfl)) (gi_cons (lg_wsX6_beatsToMound_1 _ (List.mem_of_getElem? (i := 7) rfl)) gi_nil)))))))))))))))))))))))) (gi_cons (lg_wsX6_beatsToMound_1 _ (List.mem_of_getElem? (i := 8) rfl)) (gi_cons (lg_wsX6_beatsToMound_1 _ (List.mem_of_getElem? (i := 9) rfl)) (gi_cons (lg_wsX6_beatsToMound_1 _ (List.mem_of_getElem? (i := 10) rfl)) (gi_cons (lg_wsX6_beatsToMound_1 _ (List.mem_of_getElem? (i := 11) rfl)) (gi_cons (lg_wsX6_beatsToMound_1 _ (List.mem_of_getElem? (i := 12) rfl)) (gi_cons (lg_wsX6_beatsToMound_1 _ (List.mem_of_getElem? (i := 13) rfl)) (gi_cons (lg_wsX6_beatsToMound_1 _ (List.mem_of_getElem? (i := 14) rfl)) (gi_cons (lg_wsX6_beatsToMound_1 _ (List.mem_of_getElem? (i := 15) rfl)) (gi_cons (lg_wsX6_beatsToMound_1 _ (List.mem_of_getElem? (i := 16) rfl)) (gi_cons (lg_wsX6_beatsToMound_1 _ (List.mem_of_getElem? (i := 17) rfl)) (gi_cons (lg_wsX6_beatsToMound_1 _ (List.mem_of_getElem? (i := 18) rfl)) (gi_cons (lg_wsX6_beatsToMound_1 _ (List.mem_of_getElem? (i := 19) rfl)) (gi_cons (lg_wsX6_beatsToMound_1 _ (List.mem_of_getElem? (i := 20) rfl)) (gi_cons (lg_wsX6_beatsToMound_1 _ (List.mem_of_getElem? (i := 21) rfl)) (gi_cons (lg_wsX6_beatsToMound_1 _ (List.mem_of_getElem? (i := 22) rfl)) gi_nil)))))))))))))))) ls_wsX6_beatsToMound_1) ls_wsX6_beatsToMound_2) ls_wsX6_beatsToMound_3))
set_option maxRecDepth 20000 in
theorem gX6_beatsToMound_X0_copyFrom : GoodIn wsX6_beatsToMound (wsV RX6 179 RX0 yX0_copyFrom wsX0_copyFrom) := goodIn_app (gi_cons (lg_wsX6_beatsToMound_0 _ (List.mem_of_getElem? (i := 3) rfl)) (gi_cons (lg_wsX6_beatsToMound_0 _ (List.mem_of_getElem? (i := 4) rfl)) (gi_cons (lg_wsX6_beatsToMound_0 _ (List.mem_of_getElem? (i := 5) rfl)) (gi_cons (lg_wsX6_beatsToMound_0 _ (List.mem_of_getElem? (i := 6) rfl)) gi_nil)))) ggX6_beatsToMound_X0_copyFrom
set_option maxRecDepth 20000 in
theorem ggX6_beatsToMound_X0_hasPlans : GoodIn wsX6_beatsToMound wsX0_hasPlans := (gi_cons (lg_wsX6_beatsToMound_2 _ (List.mem_of_getElem? (i := 2) rfl)) (goodIn_app (goodIn_app (gi_cons (lg_wsX6_beatsToMound_0 _ (List.mem_of_getElem? (i := 17) rfl)) (gi_cons (lg_wsX6_beatsToMound_0 _ (List.mem_of_getElem? (i := 18) rfl)) (gi_cons (lg_wsX6_beatsToMound_2 _ (List.mem_of_getElem? (i := 3) rfl)) gi_nil))) ls_wsX6_beatsToMound_1) ls_wsX6_beatsToMound_3))
set_option maxRecDepth 20000 in
theorem gX6_beatsToMound_X0_hasPlans : GoodIn wsX6_beatsToMound (wsV RX6 328 RX0 yX0_hasPlans wsX0_hasPlans) := goodIn_app (gi_cons (lg_wsX6_beatsToMound_1 _ (List.mem_of_getElem? (i := 23) rfl)) (gi_cons (lg_wsX6_beatsToMound_2 _ (List.mem_of_getElem? (i := 0) rfl)) (gi_cons (lg_wsX6_beatsToMound_2 _ (List.mem_of_getElem? (i := 1) rfl)) (gi_cons (lg_wsX6_beatsToMound_0 _ (List.mem_of_getElem? (i := 6) rfl)) gi_nil)))) ggX6_beatsToMound_X0_hasPlans
set_option maxRecDepth 20000 in
theorem ggX6_beatsToMound_X0_beat : GoodIn wsX6_beatsToMound wsX0_beat := (gi_cons (lg_wsX6_beatsToMound_2 _ (List.mem_of_getElem? (i := 7) rfl)) (goodIn_app (goodIn_app (goodIn_app (goodIn_app (gi_cons (lg_wsX6_beatsToMound_0 _ (List.mem_of_getElem? (i := 20) rfl)) (gi_cons (lg_wsX6_beatsToMound_0 _ (List.mem_of_getElem? (i := 15) rfl)) (gi_cons (lg_wsX6_beatsToMound_0 _ (List.mem_of_getElem? (i := 17) rfl)) (gi_cons (lg_wsX6_beatsToMound_2 _ (List.mem_of_getElem? (i := 8) rfl)) (gi_cons (lg_wsX6_beatsToMound_2 _ (List.mem_of_getElem? (i := 9) rfl)) (gi_cons (lg_wsX6_beatsToMound_2 _ (List.mem_of_getElem? (i := 10) rfl)) (gi_cons (lg_wsX6_beatsToMound_0 _ (List.mem_of_getElem? (i := 6) rfl)) (gi_cons (lg_wsX6_beatsToMound_2 _ (List.mem_of_getElem? (i := 11) rfl)) (gi_cons (lg_wsX6_beatsToMound_0 _ (List.mem_of_getElem? (i := 18) rfl)) (gi_cons (lg_wsX6_beatsToMound_2 _ (List.mem_of_getElem? (i := 3) rfl)) (gi_cons (lg_wsX6_beatsToMound_2 _ (List.mem_of_getElem? (i := 12) rfl)) (gi_cons (lg_wsX6_beatsToMound_2 _ (List.mem_of_getElem? (i := 13) rfl)) (gi_cons (lg_wsX6_beatsToMound_0 _ (List.mem_of_getElem? (i := 10) rfl)) (gi_cons (lg_wsX6_beatsToMound_0 _ (List.mem_of_getElem? (i := 22) rfl)) (gi_cons (lg_wsX6_beatsToMound_0 _ (List.mem_of_getElem? (i := 8) rfl)) (gi_cons (lg_wsX6_beatsToMound_0 _ (List.mem_of_getElem? (i := 19) rfl)) (gi_cons (lg_wsX6_beatsToMound_2 _ (List.mem_of_getElem? (i := 14) rfl)) (gi_cons (lg_wsX6_beatsToMound_2 _ (List.mem_of_getElem? (i := 15) rfl)) (gi_cons (lg_wsX6_beatsToMound_2 _ (List.mem_of_getElem? (i := 16) rfl)) (gi_cons (lg_wsX6_beatsToMound_1 _ (List.mem_of_getElem? (i := 14) rfl)) (gi_cons (lg_wsX6_beatsToMound_2 _ (List.mem_of_getElem? (i := 17) rfl)) (gi_cons (lg_wsX6_beatsToMound_1 _ (List.mem_of_getElem? (i := 22) rfl)) (gi_cons (lg_wsX6_beatsToMound_1 _ (List.mem_of_getElem? (i := 17) rfl)) (gi_cons (lg_wsX6_beatsToMound_2 _ (List.mem_of_getElem? (i := 18) rfl)) gi_nil)))))))))))))))))))))))) (goodIn_app (gi_cons (lg_wsX6_beatsToMound_2 _ (List.mem_of_getElem? (i := 19) rfl)) (gi_cons (lg_wsX6_beatsToMound_2 _ (List.mem_of_getElem? (i := 20) rfl)) (gi_cons (lg_wsX6_beatsToMound_2 _ (List.mem_of_getElem? (i := 21) rfl)) (gi_cons (lg_wsX6_beatsToMound_2 _ (List.mem_of_getElem? (i := 22) rfl)) (gi_cons (lg_wsX6_beatsToMound_2 _ (List.mem_of_getElem? (i := 23) rfl)) (gi_cons (lg_wsX6_beatsToMound_3 _ (List.mem_of_getElem? (i := 0) rfl)) (gi_cons (lg_wsX6_beatsToMound_3 _ (List.mem_of_getElem? (i := 1) rfl)) (gi_cons (lg_wsX6_beatsToMound_3 _ (List.mem_of_getElem? (i := 2) rfl)) (gi_cons (lg_wsX6_beatsToMound_3 _ (List.mem_of_getElem? (i := 3) rfl)) (gi_cons (lg_wsX6_beatsToMound_3 _ (List.mem_of_getElem? (i := 4) rfl)) (gi_cons (lg_wsX6_beatsToMound_3 _ (List.mem_of_getElem? (i := 5) rfl)) (gi_cons (lg_wsX6_beatsToMound_1 _ (List.mem_of_getElem? (i := 16) rfl)) (gi_cons (lg_wsX6_beatsToMound_1 _ (List.mem_of_getElem? (i := 20) rfl)) (gi_cons (lg_wsX6_beatsToMound_3 _ (List.mem_of_getElem? (i := 6) rfl)) (gi_cons (lg_wsX6_beatsToMound_3 _ (List.mem_of_getElem? (i := 7) rfl)) (gi_cons (lg_wsX6_beatsToMound_3 _ (List.mem_of_getElem? (i := 8) rfl)) (gi_cons (lg_wsX6_beatsToMound_3 _ (List.mem_of_getElem? (i := 9) rfl)) (gi_cons (lg_wsX6_beatsToMound_1 _ (List.mem_of_getElem? (i := 19) rfl)) (gi_cons (lg_wsX6_beatsToMound_3 _ (List.mem_of_getElem? (i := 10) rfl)) (gi_cons (lg_wsX6_beatsToMound_3 _ (List.mem_of_getElem? (i := 11) rfl)) (gi_cons (lg_wsX6_beatsToMound_3 _ (List.mem_of_getElem? (i := 12) rfl)) (gi_cons (lg_wsX6_beatsToMound_3 _ (List.mem_of_getElem? (i := 13) rfl)) (gi_cons (lg_wsX6_beatsToMound_0 _ (List.mem_of_getElem? (i := 21) rfl)) (gi_cons (lg_wsX6_beatsToMound_3 _ (List.mem_of_getElem? (i := 14) rfl)) gi_nil)))))))))))))))))))))))) (goodIn_app (gi_cons (lg_wsX6_beatsToMound_3 _ (List.mem_of_getElem? (i := 15) rfl)) (gi_cons (lg_wsX6_beatsToMound_3 _ (List.mem_of_getElem? (i := 16) rfl)) (gi_cons (lg_wsX6_beatsToMound_3 _ (List.mem_of_getElem? (i := 17) rfl)) (gi_cons (lg_wsX6_beatsToMound_0 _ (List.mem_of_getElem? (i := 16) rfl)) (gi_cons (lg_wsX6_beatsToMound_3 _ (List.mem_of_getElem? (i := 18) rfl)) (gi_cons (lg_wsX6_beatsToMound_3 _ (List.mem_of_getElem? (i := 19) rfl)) (gi_cons (lg_wsX6_beatsToMound_3 _ (List.mem_of_getElem? (i := 20) rfl)) (gi_cons (lg_wsX6_beatsToMound_3 _ (List.mem_of_getElem? (i := 21) rfl)) (gi_cons (lg_wsX6_beatsToMound_3 _ (List.mem_of_getElem? (i := 22) rfl)) (gi_cons (lg_wsX6_beatsToMound_3 _ (List.mem_of_getElem? (i := 23) rfl)) (gi_cons (lg_wsX6_beatsToMound_4 _ (List.mem_of_getElem? (i := 0) rfl)) (gi_cons (lg_wsX6_beatsToMound_4 _ (List.mem_of_getElem? (i := 1) rfl)) (gi_cons (lg_wsX6_beatsToMound_1 _ (List.mem_of_getElem? (i := 4) rfl)) (gi_cons (lg_wsX6_beatsToMound_4 _ (List.mem_of_getElem? (i := 2) rfl)) (gi_cons (lg_wsX6_beatsToMound_1 _ (List.mem_of_getElem? (i := 7) rfl)) (gi_cons (lg_wsX6_beatsToMound_1 _ (List.mem_of_getElem? (i := 10) rfl)) (gi_cons (lg_wsX6_beatsToMound_1 _ (List.mem_of_getElem? (i := 8) rfl)) (gi_cons (lg_wsX6_beatsToMound_1 _ (List.mem_of_getElem? (i := 6) rfl)) (gi_cons (lg_wsX6_beatsToMound_1 _ (List.mem_of_getElem? (i := 9) rfl)) (gi_cons (lg_wsX6_beatsToMound_0 _ (List.mem_of_getElem? (i := 12) rfl)) (gi_cons (lg_wsX6_beatsToMound_0 _ (List.mem_of_getElem? (i := 13) rfl)) (gi_cons (lg_wsX6_beatsToMound_0 _ (List.mem_of_getElem? (i := 14) rfl)) (gi_cons (lg_wsX6_beatsToMound_4 _ (List.mem_of_getElem? (i := 3) rfl)) (gi_cons (lg_wsX6_beatsToMound_4 _ (List.mem_of_getElem? (i := 4) rfl)) gi_nil)))))))))))))))))))))))) (goodIn_app (gi_cons (lg_wsX6_beatsToMound_4 _ (List.mem_of_getElem? (i := 5) rfl)) (gi_cons (lg_wsX6_beatsToMound_4 _ (List.mem_of_getElem? (i := 6) rfl)) (gi_cons (lg_wsX6_beatsToMound_4 _ (List.mem_of_getElem? (i := 7) rfl)) (gi_cons (lg_wsX6_beatsToMound_4 _ (List.mem_of_getElem? (i := 8) rfl)) (gi_cons (lg_wsX6_beatsToMound_4 _ (List.mem_of_getElem? (i := 9) rfl)) (gi_cons (lg_wsX6_beatsToMound_4 _ (List.mem_of_getElem? (i := 10) rfl)) (gi_cons (lg_wsX6_beatsToMound_0 _ (List.mem_of_getElem? (i := 23) rfl)) (gi_cons (lg_wsX6_beatsToMound_4 _ (List.mem_of_getElem? (i := 11) rfl)) (gi_cons (lg_wsX6_beatsToMound_4 _ (List.mem_of_getElem? (i := 12) rfl)) (gi_cons (lg_wsX6_beatsToMound_4 _ (List.mem_of_getElem? (i := 13) rfl)) (gi_cons (lg_wsX6_beatsToMound_4 _ (List.mem_of_getElem? (i := 14) rfl)) (gi_cons (lg_wsX6_beatsToMound_4 _ (List.mem_of_getElem? (i := 15) rfl)) (gi_cons (lg_wsX6_beatsToMound_4 _ (List.mem_of_getElem? (i := 16) rfl)) (gi_cons (lg_wsX6_beatsToMound_4 _ (List.mem_of_getElem? (i := 17) rfl)) (gi_cons (lg_wsX6_beatsToMound_4 _ (List.mem_of_getElem? (i := 18) rfl)) (gi_cons (lg_wsX6_beatsToMound_4 _ (List.mem_of_getElem? (i := 19) rfl)) (gi_cons (lg_wsX6_beatsToMound_4 _ (List.mem_of_getElem? (i := 20) rfl)) (gi_cons (lg_wsX6_beatsToMound_4 _ (List.mem_of_getElem? (i := 21) rfl)) (gi_cons (lg_wsX6_beatsToMound_4 _ (List.mem_of_getElem? (i := 22) rfl)) (gi_cons (lg_wsX6_beatsToMound_4 _ (List.mem_of_getElem? (i := 23) rfl)) (gi_cons (lg_wsX6_beatsToMound_5 _ (List.mem_of_getElem? (i := 0) rfl)) (gi_cons (lg_wsX6_beatsToMound_5 _ (List.mem_of_getElem? (i := 1) rfl)) (gi_cons (lg_wsX6_beatsToMound_5 _ (List.mem_of_getElem? (i := 2) rfl)) (gi_cons (lg_wsX6_beatsToMound_5 _ (List.mem_of_getElem? (i := 3) rfl)) gi_nil)))))))))))))))))))))))) (gi_cons (lg_wsX6_beatsToMound_5 _ (List.mem_of_getElem? (i := 4) rfl)) (gi_cons (lg_wsX6_beatsToMound_5 _ (List.mem_of_getElem? (i := 5) rfl)) (gi_cons (lg_wsX6_beatsToMound_5 _ (List.mem_of_getElem? (i := 6) rfl)) (gi_cons (lg_wsX6_beatsToMound_5 _ (List.mem_of_getElem? (i := 7) rfl)) (gi_cons (lg_wsX6_beatsToMound_5 _ (List.mem_of_getElem? (i := 8) rfl)) (gi_cons (lg_wsX6_beatsToMound_5 _ (List.mem_of_getElem? (i := 9) rfl)) (gi_cons (lg_wsX6_beatsToMound_5 _ (List.mem_of_getElem? (i := 10) rfl)) (gi_cons (lg_wsX6_beatsToMound_5 _ (List.mem_of_getElem? (i := 11) rfl)) (gi_cons (lg_wsX6_beatsToMound_5 _ (List.mem_of_getElem? (i := 12) rfl)) (gi_cons (lg_wsX6_beatsToMound_5 _ (List.mem_of_getElem? (i := 13) rfl)) (gi_cons (lg_wsX6_beatsToMound_5 _ (List.mem_of_getElem? (i := 14) rfl)) (gi_cons (lg_wsX6_beatsToMound_5 _ (List.mem_of_getElem? (i := 15) rfl)) (gi_cons (lg_wsX6_beatsToMound_1 _ (List.mem_of_getElem? (i := 1) rfl)) (gi_cons (lg_wsX6_beatsToMound_1 _ (List.mem_of_getElem? (i := 2) rfl)) (gi_cons (lg_wsX6_beatsToMound_1 _ (List.mem_of_getElem? (i := 3) rfl)) (gi_cons (lg_wsX6_beatsToMound_1 _ (List.mem_of_getElem? (i := 5) rfl)) (gi_cons (lg_wsX6_beatsToMound_5 _ (List.mem_of_getElem? (i := 16) rfl)) (gi_cons (lg_wsX6_beatsToMound_5 _ (List.mem_of_getElem? (i := 17) rfl)) (gi_cons (lg_wsX6_beatsToMound_5 _ (List.mem_of_getElem? (i := 18) rfl)) (gi_cons (lg_wsX6_beatsToMound_5 _ (List.mem_of_getElem? (i := 19) rfl)) gi_nil)))))))))))))))))))))))) ls_wsX6_beatsToMound_1) ls_wsX6_beatsToMound_3) ls_wsX6_beatsToMound_2))
set_option maxRecDepth 20000 in
theorem gX6_beatsToMound_X0_beat : GoodIn wsX6_beatsToMound (wsV RX6 106 RX0 yX0_beat wsX0_beat) := goodIn_app (gi_cons (lg_wsX6_beatsToMound_2 _ (List.mem_of_getElem? (i := 4) rfl)) (gi_cons (lg_wsX6_beatsToMound_2 _ (List.mem_of_getElem? (i := 5) rfl)) (gi_cons (lg_wsX6_beatsToMound_2 _ (List.mem_of_getElem? (i := 6) rfl)) (gi_cons (lg_wsX6_beatsToMound_0 _ (List.mem_of_getElem? (i := 6) rfl)) gi_nil)))) ggX6_beatsToMound_X0_beat
theorem dX6_beatsToMound_0 : decode cX6_beatsToMound 0 = .ok (.aload_n 0, 1) := by decide +kernel
theorem dX6_beatsToMound_1 : decode cX6_beatsToMound 1 = .ok (.getfield 24, 3) := by decide +kernel
theorem dX6_beatsToMound_4 : decode cX6_beatsToMound 4 = .ok (.aload_n 0, 1) := by decide +kernel
theorem dX6_beatsToMound_5 : decode cX6_beatsToMound 5 = .ok (.getfield 15, 3) := by decide +kernel
theorem dX6_beatsToMound_8 : decode cX6_beatsToMound 8 = .ok (.invokevirtual 179, 3) := by decide +kernel
theorem dX6_beatsToMound_11 : decode cX6_beatsToMound 11 = .ok (.iconst 1, 1) := by decide +kernel
theorem dX6_beatsToMound_12 : decode cX6_beatsToMound 12 = .ok (.istore_n 1, 1) := by decide +kernel
theorem dX6_beatsToMound_13 : decode cX6_beatsToMound 13 = .ok (.iload_n 1, 1) := by decide +kernel
theorem dX6_beatsToMound_14 : decode cX6_beatsToMound 14 = .ok (.bipush 100, 2) := by decide +kernel
theorem dX6_beatsToMound_16 : decode cX6_beatsToMound 16 = .ok (.if_icmp .gt 45, 3) := by decide +kernel
theorem dX6_beatsToMound_19 : decode cX6_beatsToMound 19 = .ok (.aload_n 0, 1) := by decide +kernel
theorem dX6_beatsToMound_20 : decode cX6_beatsToMound 20 = .ok (.getfield 24, 3) := by decide +kernel
theorem dX6_beatsToMound_23 : decode cX6_beatsToMound 23 = .ok (.invokevirtual 328, 3) := by decide +kernel
theorem dX6_beatsToMound_26 : decode cX6_beatsToMound 26 = .ok (.ifCond .eq 35, 3) := by decide +kernel
theorem dX6_beatsToMound_29 : decode cX6_beatsToMound 29 = .ok (.aload_n 0, 1) := by decide +kernel
theorem dX6_beatsToMound_30 : decode cX6_beatsToMound 30 = .ok (.getfield 24, 3) := by decide +kernel
theorem dX6_beatsToMound_33 : decode cX6_beatsToMound 33 = .ok (.invokevirtual 106, 3) := by decide +kernel
theorem dX6_beatsToMound_36 : decode cX6_beatsToMound 36 = .ok (.aload_n 0, 1) := by decide +kernel
theorem dX6_beatsToMound_37 : decode cX6_beatsToMound 37 = .ok (.getfield 24, 3) := by decide +kernel
theorem dX6_beatsToMound_40 : decode cX6_beatsToMound 40 = .ok (.getfield 103, 3) := by decide +kernel
theorem dX6_beatsToMound_43 : decode cX6_beatsToMound 43 = .ok (.aload_n 0, 1) := by decide +kernel
theorem dX6_beatsToMound_44 : decode cX6_beatsToMound 44 = .ok (.getfield 15, 3) := by decide +kernel
theorem dX6_beatsToMound_47 : decode cX6_beatsToMound 47 = .ok (.getfield 103, 3) := by decide +kernel
theorem dX6_beatsToMound_50 : decode cX6_beatsToMound 50 = .ok (.if_icmp .le 5, 3) := by decide +kernel
theorem dX6_beatsToMound_53 : decode cX6_beatsToMound 53 = .ok (.iload_n 1, 1) := by decide +kernel
theorem dX6_beatsToMound_54 : decode cX6_beatsToMound 54 = .ok (.ireturn, 1) := by decide +kernel
theorem dX6_beatsToMound_55 : decode cX6_beatsToMound 55 = .ok (.iinc 1 1, 3) := by decide +kernel
theorem dX6_beatsToMound_58 : decode cX6_beatsToMound 58 = .ok (.goto (-45), 3) := by decide +kernel
theorem dX6_beatsToMound_61 : decode cX6_beatsToMound 61 = .ok (.iconst (-1), 1) := by decide +kernel
theorem dX6_beatsToMound_62 : decode cX6_beatsToMound 62 = .ok (.ireturn, 1) := by decide +kernel
theorem lg_wsX6_hashTufts_0 : GoodIn wsX6_hashTufts wsX6_hashTufts_r1 := goodIn_sub (fun _ h => (List.mem_cons_of_mem _ (List.mem_append_left _ (List.mem_append_left _ (List.mem_append_left _ (List.mem_append_left _ (List.mem_append_left _ h))))))) (by decide +kernel)
theorem lg_wsX6_hashTufts_1 : GoodIn wsX6_hashTufts wsX6_hashTufts_r2 := goodIn_sub (fun _ h => (List.mem_cons_of_mem _ (List.mem_append_left _ (List.mem_append_left _ (List.mem_append_left _ (List.mem_append_left _ (List.mem_append_right _ h))))))) (by decide +kernel)
theorem ls_wsX6_hashTufts_0 : GoodIn wsX6_hashTufts wsX60 := goodIn_sub (fun _ h => (List.mem_cons_of_mem _ (List.mem_append_left _ (List.mem_append_left _ (List.mem_append_left _ (List.mem_append_right _ h)))))) (by decide +kernel)
theorem ls_wsX6_hashTufts_1 : GoodIn wsX6_hashTufts wsX00 := goodIn_sub (fun _ h => (List.mem_cons_of_mem _ (List.mem_append_left _ (List.mem_append_left _ (List.mem_append_right _ h))))) (by decide +kernel)
theorem ls_wsX6_hashTufts_2 : GoodIn wsX6_hashTufts wsX40 := goodIn_sub (fun _ h => (List.mem_cons_of_mem _ (List.mem_append_left _ (List.mem_append_right _ h)))) (by decide +kernel)
theorem ls_wsX6_hashTufts_3 : GoodIn wsX6_hashTufts wsX10 := goodIn_sub (fun _ h => (List.mem_cons_of_mem _ (List.mem_append_right _ h))) (by decide +kernel)
set_option maxRecDepth 20000 in
theorem ggX6_hashTufts_X6_numberOfTuft : GoodIn wsX6_hashTufts wsX6_numberOfTuft := (gi_cons (lg_wsX6_hashTufts_0 _ (List.mem_of_getElem? (i := 5) rfl)) (goodIn_app (goodIn_app (goodIn_app (goodIn_app (goodIn_app (gi_cons (lg_wsX6_hashTufts_0 _ (List.mem_of_getElem? (i := 6) rfl)) (gi_cons (lg_wsX6_hashTufts_0 _ (List.mem_of_getElem? (i := 7) rfl)) (gi_cons (lg_wsX6_hashTufts_0 _ (List.mem_of_getElem? (i := 8) rfl)) (gi_cons (lg_wsX6_hashTufts_0 _ (List.mem_of_getElem? (i := 9) rfl)) (gi_cons (lg_wsX6_hashTufts_0 _ (List.mem_of_getElem? (i := 10) rfl)) (gi_cons (lg_wsX6_hashTufts_0 _ (List.mem_of_getElem? (i := 11) rfl)) (gi_cons (lg_wsX6_hashTufts_0 _ (List.mem_of_getElem? (i := 12) rfl)) (gi_cons (lg_wsX6_hashTufts_0 _ (List.mem_of_getElem? (i := 13) rfl)) (gi_cons (lg_wsX6_hashTufts_0 _ (List.mem_of_getElem? (i := 14) rfl)) (gi_cons (lg_wsX6_hashTufts_0 _ (List.mem_of_getElem? (i := 15) rfl)) (gi_cons (lg_wsX6_hashTufts_0 _ (List.mem_of_getElem? (i := 16) rfl)) (gi_cons (lg_wsX6_hashTufts_0 _ (List.mem_of_getElem? (i := 17) rfl)) (gi_cons (lg_wsX6_hashTufts_0 _ (List.mem_of_getElem? (i := 18) rfl)) (gi_cons (lg_wsX6_hashTufts_0 _ (List.mem_of_getElem? (i := 19) rfl)) (gi_cons (lg_wsX6_hashTufts_0 _ (List.mem_of_getElem? (i := 20) rfl)) (gi_cons (lg_wsX6_hashTufts_0 _ (List.mem_of_getElem? (i := 4) rfl)) (gi_cons (lg_wsX6_hashTufts_0 _ (List.mem_of_getElem? (i := 21) rfl)) (gi_cons (lg_wsX6_hashTufts_0 _ (List.mem_of_getElem? (i := 22) rfl)) (gi_cons (lg_wsX6_hashTufts_0 _ (List.mem_of_getElem? (i := 23) rfl)) (gi_cons (lg_wsX6_hashTufts_1 _ (List.mem_of_getElem? (i := 0) rfl)) (gi_cons (lg_wsX6_hashTufts_1 _ (List.mem_of_getElem? (i := 1) rfl)) (gi_cons (lg_wsX6_hashTufts_1 _ (List.mem_of_getElem? (i := 2) rfl)) (gi_cons (lg_wsX6_hashTufts_1 _ (List.mem_of_getElem? (i := 3) rfl)) (gi_cons (lg_wsX6_hashTufts_1 _ (List.mem_of_getElem? (i := 4) rfl)) gi_nil)))))))))))))))))))))))) (gi_cons (lg_wsX6_hashTufts_1 _ (List.mem_of_getElem? (i := 5) rfl)) (gi_cons (lg_wsX6_hashTufts_1 _ (List.mem_of_getElem? (i := 6) rfl)) (gi_cons (lg_wsX6_hashTufts_1 _ (List.mem_of_getElem? (i := 7) rfl)) (gi_cons (lg_wsX6_hashTufts_1 _ (List.mem_of_getElem? (i := 8) rfl)) (gi_cons (lg_wsX6_hashTufts_1 _ (List.mem_of_getElem? (i := 9) rfl)) (gi_cons (lg_wsX6_hashTufts_1 _ (List.mem_of_getElem? (i := 10) rfl)) (gi_cons (lg_wsX6_hashTufts_1 _ (List.mem_of_getElem? (i := 11) rfl)) (gi_cons (lg_wsX6_hashTufts_1 _ (List.mem_of_getElem? (i := 12) rfl)) (gi_cons (lg_wsX6_hashTufts_1 _ (List.mem_of_getElem? (i := 13) rfl)) (gi_cons (lg_wsX6_hashTufts_1 _ (List.mem_of_getElem? (i := 14) rfl)) (gi_cons (lg_wsX6_hashTufts_1 _ (List.mem_of_getElem? (i := 15) rfl)) (gi_cons (lg_wsX6_hashTufts_1 _ (List.mem_of_getElem? (i := 16) rfl)) gi_nil))))))))))))) ls_wsX6_hashTufts_0) ls_wsX6_hashTufts_1) ls_wsX6_hashTufts_2) ls_wsX6_hashTufts_3))
set_option maxRecDepth 20000 in
theorem gX6_hashTufts_X6_numberOfTuft : GoodIn wsX6_hashTufts (wsV RX6 203 RX6 yX6_numberOfTuft wsX6_numberOfTuft) := goodIn_app (gi_cons (lg_wsX6_hashTufts_0 _ (List.mem_of_getElem? (i := 1) rfl)) (gi_cons (lg_wsX6_hashTufts_0 _ (List.mem_of_getElem? (i := 2) rfl)) (gi_cons (lg_wsX6_hashTufts_0 _ (List.mem_of_getElem? (i := 3) rfl)) (gi_cons (lg_wsX6_hashTufts_0 _ (List.mem_of_getElem? (i := 4) rfl)) gi_nil)))) ggX6_hashTufts_X6_numberOfTuft
theorem dX6_hashTufts_0 : decode cX6_hashTufts 0 = .ok (.lload_n 1, 1) := by decide +kernel
theorem dX6_hashTufts_1 : decode cX6_hashTufts 1 = .ok (.lstore_n 3, 1) := by decide +kernel
theorem dX6_hashTufts_2 : decode cX6_hashTufts 2 = .ok (.iconst 0, 1) := by decide +kernel
theorem dX6_hashTufts_3 : decode cX6_hashTufts 3 = .ok (.istore 5, 2) := by decide +kernel
theorem dX6_hashTufts_5 : decode cX6_hashTufts 5 = .ok (.iload 5, 2) := by decide +kernel
theorem dX6_hashTufts_7 : decode cX6_hashTufts 7 = .ok (.bipush 64, 2) := by decide +kernel
theorem dX6_hashTufts_9 : decode cX6_hashTufts 9 = .ok (.if_icmp .ge 41, 3) := by decide +kernel
theorem dX6_hashTufts_12 : decode cX6_hashTufts 12 = .ok (.iconst 0, 1) := by decide +kernel
theorem dX6_hashTufts_13 : decode cX6_hashTufts 13 = .ok (.istore 6, 2) := by decide +kernel
theorem dX6_hashTufts_15 : decode cX6_hashTufts 15 = .ok (.iload 6, 2) := by decide +kernel
theorem dX6_hashTufts_17 : decode cX6_hashTufts 17 = .ok (.bipush 8, 2) := by decide +kernel
theorem dX6_hashTufts_19 : decode cX6_hashTufts 19 = .ok (.if_icmp .gt 25, 3) := by decide +kernel
theorem dX6_hashTufts_22 : decode cX6_hashTufts 22 = .ok (.ldc2_w 252, 3) := by decide +kernel
theorem dX6_hashTufts_25 : decode cX6_hashTufts 25 = .ok (.lload_n 3, 1) := by decide +kernel
theorem dX6_hashTufts_26 : decode cX6_hashTufts 26 = .ok (.lmul, 1) := by decide +kernel
theorem dX6_hashTufts_27 : decode cX6_hashTufts 27 = .ok (.aload_n 0, 1) := by decide +kernel
theorem dX6_hashTufts_28 : decode cX6_hashTufts 28 = .ok (.iload 5, 2) := by decide +kernel
theorem dX6_hashTufts_30 : decode cX6_hashTufts 30 = .ok (.iload 6, 2) := by decide +kernel
theorem dX6_hashTufts_32 : decode cX6_hashTufts 32 = .ok (.invokevirtual 203, 3) := by decide +kernel
theorem dX6_hashTufts_35 : decode cX6_hashTufts 35 = .ok (.i2l, 1) := by decide +kernel
theorem dX6_hashTufts_36 : decode cX6_hashTufts 36 = .ok (.ladd, 1) := by decide +kernel
theorem dX6_hashTufts_37 : decode cX6_hashTufts 37 = .ok (.lstore_n 3, 1) := by decide +kernel
theorem dX6_hashTufts_38 : decode cX6_hashTufts 38 = .ok (.iinc 6 1, 3) := by decide +kernel
theorem dX6_hashTufts_41 : decode cX6_hashTufts 41 = .ok (.goto (-26), 3) := by decide +kernel
theorem dX6_hashTufts_44 : decode cX6_hashTufts 44 = .ok (.iinc 5 1, 3) := by decide +kernel
theorem dX6_hashTufts_47 : decode cX6_hashTufts 47 = .ok (.goto (-42), 3) := by decide +kernel
theorem dX6_hashTufts_50 : decode cX6_hashTufts 50 = .ok (.lload_n 3, 1) := by decide +kernel
theorem dX6_hashTufts_51 : decode cX6_hashTufts 51 = .ok (.lreturn, 1) := by decide +kernel
theorem lg_wsX6_hashMoles_0 : GoodIn wsX6_hashMoles ([.fieldLink RX6 15 "MolesLawn" "lawn" "LMolesLawn$Lawn;", .fieldLink RX6 56 "MolesLawn$Lawn" "moleCount" "I", .constantLong RX6 252 (31), .fieldLink RX6 86 "MolesLawn$Lawn" "moles" "[LMolesLawn$Mole;", .methodLink RX6 207 yX1_number, .instanceMethod yX1_number, .selects RX1 yX1_number yX1_number, .initialized RX1, .code yX1_number cX1_number 2 (some .int), .fieldLink RX1 25 "MolesLawn$Mole" "air" "I", .fieldLink RX1 22 "MolesLawn$Mole" "planned" "I", .fieldLink RX1 9 "MolesLawn$Mole" "directions" "[I", .fieldLink RX1 15 "MolesLawn$Mole" "trail" "[I", .fieldLink RX1 18 "MolesLawn$Mole" "trailLength" "I", .fieldLink RX1 28 "MolesLawn$Mole" "steps" "I", .methodLink RX1 37 yX1_place, .instanceMethod yX1_place, .selects RX1 yX1_place yX1_place, .code yX1_place cX1_place 1 (some .int)] : List Cond) := goodIn_sub (fun _ h => (List.mem_cons_of_mem _ (List.mem_append_left _ (List.mem_append_left _ (List.mem_append_left _ h))))) (by decide +kernel)
theorem ls_wsX6_hashMoles_0 : GoodIn wsX6_hashMoles wsX60 := goodIn_sub (fun _ h => (List.mem_cons_of_mem _ (List.mem_append_left _ (List.mem_append_left _ (List.mem_append_right _ h))))) (by decide +kernel)
theorem ls_wsX6_hashMoles_1 : GoodIn wsX6_hashMoles wsX00 := goodIn_sub (fun _ h => (List.mem_cons_of_mem _ (List.mem_append_left _ (List.mem_append_right _ h)))) (by decide +kernel)
theorem ls_wsX6_hashMoles_2 : GoodIn wsX6_hashMoles wsX10 := goodIn_sub (fun _ h => (List.mem_cons_of_mem _ (List.mem_append_right _ h))) (by decide +kernel)
set_option maxRecDepth 20000 in
theorem ggX6_hashMoles_X1_number : GoodIn wsX6_hashMoles wsX1_number := (gi_cons (lg_wsX6_hashMoles_0 _ (List.mem_of_getElem? (i := 8) rfl)) (goodIn_app (gi_cons (lg_wsX6_hashMoles_0 _ (List.mem_of_getElem? (i := 9) rfl)) (gi_cons (lg_wsX6_hashMoles_0 _ (List.mem_of_getElem? (i := 10) rfl)) (gi_cons (lg_wsX6_hashMoles_0 _ (List.mem_of_getElem? (i := 11) rfl)) (gi_cons (lg_wsX6_hashMoles_0 _ (List.mem_of_getElem? (i := 12) rfl)) (gi_cons (lg_wsX6_hashMoles_0 _ (List.mem_of_getElem? (i := 13) rfl)) (gi_cons (lg_wsX6_hashMoles_0 _ (List.mem_of_getElem? (i := 14) rfl)) (gi_cons (lg_wsX6_hashMoles_0 _ (List.mem_of_getElem? (i := 15) rfl)) (gi_cons (lg_wsX6_hashMoles_0 _ (List.mem_of_getElem? (i := 16) rfl)) (gi_cons (lg_wsX6_hashMoles_0 _ (List.mem_of_getElem? (i := 17) rfl)) (gi_cons (lg_wsX6_hashMoles_0 _ (List.mem_of_getElem? (i := 7) rfl)) (gi_cons (lg_wsX6_hashMoles_0 _ (List.mem_of_getElem? (i := 18) rfl)) gi_nil))))))))))) ls_wsX6_hashMoles_2))
set_option maxRecDepth 20000 in
theorem gX6_hashMoles_X1_number : GoodIn wsX6_hashMoles (wsV RX6 207 RX1 yX1_number wsX1_number) := goodIn_app (gi_cons (lg_wsX6_hashMoles_0 _ (List.mem_of_getElem? (i := 4) rfl)) (gi_cons (lg_wsX6_hashMoles_0 _ (List.mem_of_getElem? (i := 5) rfl)) (gi_cons (lg_wsX6_hashMoles_0 _ (List.mem_of_getElem? (i := 6) rfl)) (gi_cons (lg_wsX6_hashMoles_0 _ (List.mem_of_getElem? (i := 7) rfl)) gi_nil)))) ggX6_hashMoles_X1_number
theorem dX6_hashMoles_0 : decode cX6_hashMoles 0 = .ok (.lload_n 1, 1) := by decide +kernel
theorem dX6_hashMoles_1 : decode cX6_hashMoles 1 = .ok (.lstore_n 3, 1) := by decide +kernel
theorem dX6_hashMoles_2 : decode cX6_hashMoles 2 = .ok (.iconst 0, 1) := by decide +kernel
theorem dX6_hashMoles_3 : decode cX6_hashMoles 3 = .ok (.istore 5, 2) := by decide +kernel
theorem dX6_hashMoles_5 : decode cX6_hashMoles 5 = .ok (.iload 5, 2) := by decide +kernel
theorem dX6_hashMoles_7 : decode cX6_hashMoles 7 = .ok (.aload_n 0, 1) := by decide +kernel
theorem dX6_hashMoles_8 : decode cX6_hashMoles 8 = .ok (.getfield 15, 3) := by decide +kernel
theorem dX6_hashMoles_11 : decode cX6_hashMoles 11 = .ok (.getfield 56, 3) := by decide +kernel
theorem dX6_hashMoles_14 : decode cX6_hashMoles 14 = .ok (.if_icmp .ge 48, 3) := by decide +kernel
theorem dX6_hashMoles_17 : decode cX6_hashMoles 17 = .ok (.iconst 0, 1) := by decide +kernel
theorem dX6_hashMoles_18 : decode cX6_hashMoles 18 = .ok (.istore 6, 2) := by decide +kernel
theorem dX6_hashMoles_20 : decode cX6_hashMoles 20 = .ok (.iload 6, 2) := by decide +kernel
theorem dX6_hashMoles_22 : decode cX6_hashMoles 22 = .ok (.bipush 6, 2) := by decide +kernel
theorem dX6_hashMoles_24 : decode cX6_hashMoles 24 = .ok (.if_icmp .gt 32, 3) := by decide +kernel
theorem dX6_hashMoles_27 : decode cX6_hashMoles 27 = .ok (.ldc2_w 252, 3) := by decide +kernel
theorem dX6_hashMoles_30 : decode cX6_hashMoles 30 = .ok (.lload_n 3, 1) := by decide +kernel
theorem dX6_hashMoles_31 : decode cX6_hashMoles 31 = .ok (.lmul, 1) := by decide +kernel
theorem dX6_hashMoles_32 : decode cX6_hashMoles 32 = .ok (.aload_n 0, 1) := by decide +kernel
theorem dX6_hashMoles_33 : decode cX6_hashMoles 33 = .ok (.getfield 15, 3) := by decide +kernel
theorem dX6_hashMoles_36 : decode cX6_hashMoles 36 = .ok (.getfield 86, 3) := by decide +kernel
theorem dX6_hashMoles_39 : decode cX6_hashMoles 39 = .ok (.iload 5, 2) := by decide +kernel
theorem dX6_hashMoles_41 : decode cX6_hashMoles 41 = .ok (.aaload, 1) := by decide +kernel
theorem dX6_hashMoles_42 : decode cX6_hashMoles 42 = .ok (.iload 6, 2) := by decide +kernel
theorem dX6_hashMoles_44 : decode cX6_hashMoles 44 = .ok (.invokevirtual 207, 3) := by decide +kernel
theorem dX6_hashMoles_47 : decode cX6_hashMoles 47 = .ok (.i2l, 1) := by decide +kernel
theorem dX6_hashMoles_48 : decode cX6_hashMoles 48 = .ok (.ladd, 1) := by decide +kernel
theorem dX6_hashMoles_49 : decode cX6_hashMoles 49 = .ok (.lstore_n 3, 1) := by decide +kernel
theorem dX6_hashMoles_50 : decode cX6_hashMoles 50 = .ok (.iinc 6 1, 3) := by decide +kernel
theorem dX6_hashMoles_53 : decode cX6_hashMoles 53 = .ok (.goto (-33), 3) := by decide +kernel
theorem dX6_hashMoles_56 : decode cX6_hashMoles 56 = .ok (.iinc 5 1, 3) := by decide +kernel
theorem dX6_hashMoles_59 : decode cX6_hashMoles 59 = .ok (.goto (-54), 3) := by decide +kernel
theorem dX6_hashMoles_62 : decode cX6_hashMoles 62 = .ok (.lload_n 3, 1) := by decide +kernel
theorem dX6_hashMoles_63 : decode cX6_hashMoles 63 = .ok (.lreturn, 1) := by decide +kernel
theorem lg_wsX6_hashTunnels_0 : GoodIn wsX6_hashTunnels wsX6_hashTunnels_r1 := goodIn_sub (fun _ h => (List.mem_cons_of_mem _ (List.mem_append_left _ (List.mem_append_left _ (List.mem_append_left _ (List.mem_append_left _ h)))))) (by decide +kernel)
theorem lg_wsX6_hashTunnels_1 : GoodIn wsX6_hashTunnels wsX6_hashTunnels_r2 := goodIn_sub (fun _ h => (List.mem_cons_of_mem _ (List.mem_append_left _ (List.mem_append_left _ (List.mem_append_left _ (List.mem_append_right _ h)))))) (by decide +kernel)
theorem ls_wsX6_hashTunnels_0 : GoodIn wsX6_hashTunnels wsX60 := goodIn_sub (fun _ h => (List.mem_cons_of_mem _ (List.mem_append_left _ (List.mem_append_left _ (List.mem_append_right _ h))))) (by decide +kernel)
theorem ls_wsX6_hashTunnels_1 : GoodIn wsX6_hashTunnels wsX00 := goodIn_sub (fun _ h => (List.mem_cons_of_mem _ (List.mem_append_left _ (List.mem_append_right _ h)))) (by decide +kernel)
theorem ls_wsX6_hashTunnels_2 : GoodIn wsX6_hashTunnels wsX30 := goodIn_sub (fun _ h => (List.mem_cons_of_mem _ (List.mem_append_right _ h))) (by decide +kernel)
set_option maxRecDepth 20000 in
theorem ggX6_hashTunnels_X3_number : GoodIn wsX6_hashTunnels wsX3_number := (gi_cons (lg_wsX6_hashTunnels_0 _ (List.mem_of_getElem? (i := 8) rfl)) (goodIn_app (gi_cons (lg_wsX6_hashTunnels_0 _ (List.mem_of_getElem? (i := 9) rfl)) (gi_cons (lg_wsX6_hashTunnels_0 _ (List.mem_of_getElem? (i := 10) rfl)) (gi_cons (lg_wsX6_hashTunnels_0 _ (List.mem_of_getElem? (i := 11) rfl)) (gi_cons (lg_wsX6_hashTunnels_0 _ (List.mem_of_getElem? (i := 7) rfl)) (gi_cons (lg_wsX6_hashTunnels_0 _ (List.mem_of_getElem? (i := 12) rfl)) (gi_cons (lg_wsX6_hashTunnels_0 _ (List.mem_of_getElem? (i := 13) rfl)) (gi_cons (lg_wsX6_hashTunnels_0 _ (List.mem_of_getElem? (i := 14) rfl)) (gi_cons (lg_wsX6_hashTunnels_0 _ (List.mem_of_getElem? (i := 15) rfl)) (gi_cons (lg_wsX6_hashTunnels_0 _ (List.mem_of_getElem? (i := 16) rfl)) (gi_cons (lg_wsX6_hashTunnels_0 _ (List.mem_of_getElem? (i := 17) rfl)) (gi_cons (lg_wsX6_hashTunnels_0 _ (List.mem_of_getElem? (i := 18) rfl)) (gi_cons (lg_wsX6_hashTunnels_0 _ (List.mem_of_getElem? (i := 19) rfl)) (gi_cons (lg_wsX6_hashTunnels_0 _ (List.mem_of_getElem? (i := 20) rfl)) (gi_cons (lg_wsX6_hashTunnels_0 _ (List.mem_of_getElem? (i := 21) rfl)) (gi_cons (lg_wsX6_hashTunnels_0 _ (List.mem_of_getElem? (i := 22) rfl)) (gi_cons (lg_wsX6_hashTunnels_0 _ (List.mem_of_getElem? (i := 23) rfl)) (gi_cons (lg_wsX6_hashTunnels_1 _ (List.mem_of_getElem? (i := 0) rfl)) (gi_cons (lg_wsX6_hashTunnels_1 _ (List.mem_of_getElem? (i := 1) rfl)) (gi_cons (lg_wsX6_hashTunnels_1 _ (List.mem_of_getElem? (i := 2) rfl)) (gi_cons (lg_wsX6_hashTunnels_1 _ (List.mem_of_getElem? (i := 3) rfl)) (gi_cons (lg_wsX6_hashTunnels_1 _ (List.mem_of_getElem? (i := 4) rfl)) (gi_cons (lg_wsX6_hashTunnels_1 _ (List.mem_of_getElem? (i := 5) rfl)) (gi_cons (lg_wsX6_hashTunnels_1 _ (List.mem_of_getElem? (i := 6) rfl)) (gi_cons (lg_wsX6_hashTunnels_1 _ (List.mem_of_getElem? (i := 7) rfl)) gi_nil)))))))))))))))))))))))) ls_wsX6_hashTunnels_2))
set_option maxRecDepth 20000 in
theorem gX6_hashTunnels_X3_number : GoodIn wsX6_hashTunnels (wsV RX6 213 RX3 yX3_number wsX3_number) := goodIn_app (gi_cons (lg_wsX6_hashTunnels_0 _ (List.mem_of_getElem? (i := 4) rfl)) (gi_cons (lg_wsX6_hashTunnels_0 _ (List.mem_of_getElem? (i := 5) rfl)) (gi_cons (lg_wsX6_hashTunnels_0 _ (List.mem_of_getElem? (i := 6) rfl)) (gi_cons (lg_wsX6_hashTunnels_0 _ (List.mem_of_getElem? (i := 7) rfl)) gi_nil)))) ggX6_hashTunnels_X3_number
set_option maxRecDepth 20000 in
theorem ggX6_hashTunnels_X3_at : GoodIn wsX6_hashTunnels wsX3_at := (gi_cons (lg_wsX6_hashTunnels_0 _ (List.mem_of_getElem? (i := 16) rfl)) (goodIn_app (gi_cons (lg_wsX6_hashTunnels_0 _ (List.mem_of_getElem? (i := 17) rfl)) (gi_cons (lg_wsX6_hashTunnels_0 _ (List.mem_of_getElem? (i := 18) rfl)) (gi_cons (lg_wsX6_hashTunnels_0 _ (List.mem_of_getElem? (i := 19) rfl)) (gi_cons (lg_wsX6_hashTunnels_0 _ (List.mem_of_getElem? (i := 20) rfl)) (gi_cons (lg_wsX6_hashTunnels_0 _ (List.mem_of_getElem? (i := 7) rfl)) (gi_cons (lg_wsX6_hashTunnels_0 _ (List.mem_of_getElem? (i := 21) rfl)) (gi_cons (lg_wsX6_hashTunnels_0 _ (List.mem_of_getElem? (i := 22) rfl)) (gi_cons (lg_wsX6_hashTunnels_0 _ (List.mem_of_getElem? (i := 23) rfl)) (gi_cons (lg_wsX6_hashTunnels_1 _ (List.mem_of_getElem? (i := 0) rfl)) (gi_cons (lg_wsX6_hashTunnels_1 _ (List.mem_of_getElem? (i := 1) rfl)) (gi_cons (lg_wsX6_hashTunnels_1 _ (List.mem_of_getElem? (i := 2) rfl)) (gi_cons (lg_wsX6_hashTunnels_1 _ (List.mem_of_getElem? (i := 3) rfl)) gi_nil)))))))))))) ls_wsX6_hashTunnels_2))
set_option maxRecDepth 20000 in
theorem gX6_hashTunnels_X3_at : GoodIn wsX6_hashTunnels (wsV RX6 217 RX3 yX3_at wsX3_at) := goodIn_app (gi_cons (lg_wsX6_hashTunnels_1 _ (List.mem_of_getElem? (i := 8) rfl)) (gi_cons (lg_wsX6_hashTunnels_0 _ (List.mem_of_getElem? (i := 14) rfl)) (gi_cons (lg_wsX6_hashTunnels_0 _ (List.mem_of_getElem? (i := 15) rfl)) (gi_cons (lg_wsX6_hashTunnels_0 _ (List.mem_of_getElem? (i := 7) rfl)) gi_nil)))) ggX6_hashTunnels_X3_at
theorem dX6_hashTunnels_0 : decode cX6_hashTunnels 0 = .ok (.lload_n 1, 1) := by decide +kernel
theorem dX6_hashTunnels_1 : decode cX6_hashTunnels 1 = .ok (.lstore_n 3, 1) := by decide +kernel
theorem dX6_hashTunnels_2 : decode cX6_hashTunnels 2 = .ok (.aload_n 0, 1) := by decide +kernel
theorem dX6_hashTunnels_3 : decode cX6_hashTunnels 3 = .ok (.getfield 15, 3) := by decide +kernel
theorem dX6_hashTunnels_6 : decode cX6_hashTunnels 6 = .ok (.getfield 187, 3) := by decide +kernel
theorem dX6_hashTunnels_9 : decode cX6_hashTunnels 9 = .ok (.astore 5, 2) := by decide +kernel
theorem dX6_hashTunnels_11 : decode cX6_hashTunnels 11 = .ok (.iconst 0, 1) := by decide +kernel
theorem dX6_hashTunnels_12 : decode cX6_hashTunnels 12 = .ok (.istore 6, 2) := by decide +kernel
theorem dX6_hashTunnels_14 : decode cX6_hashTunnels 14 = .ok (.iload 6, 2) := by decide +kernel
theorem dX6_hashTunnels_16 : decode cX6_hashTunnels 16 = .ok (.aload 5, 2) := by decide +kernel
theorem dX6_hashTunnels_18 : decode cX6_hashTunnels 18 = .ok (.getfield 191, 3) := by decide +kernel
theorem dX6_hashTunnels_21 : decode cX6_hashTunnels 21 = .ok (.if_icmp .ge 84, 3) := by decide +kernel
theorem dX6_hashTunnels_24 : decode cX6_hashTunnels 24 = .ok (.iconst 0, 1) := by decide +kernel
theorem dX6_hashTunnels_25 : decode cX6_hashTunnels 25 = .ok (.istore 7, 2) := by decide +kernel
theorem dX6_hashTunnels_27 : decode cX6_hashTunnels 27 = .ok (.iload 7, 2) := by decide +kernel
theorem dX6_hashTunnels_29 : decode cX6_hashTunnels 29 = .ok (.iconst 2, 1) := by decide +kernel
theorem dX6_hashTunnels_30 : decode cX6_hashTunnels 30 = .ok (.if_icmp .gt 26, 3) := by decide +kernel
theorem dX6_hashTunnels_33 : decode cX6_hashTunnels 33 = .ok (.ldc2_w 252, 3) := by decide +kernel
theorem dX6_hashTunnels_36 : decode cX6_hashTunnels 36 = .ok (.lload_n 3, 1) := by decide +kernel
theorem dX6_hashTunnels_37 : decode cX6_hashTunnels 37 = .ok (.lmul, 1) := by decide +kernel
theorem dX6_hashTunnels_38 : decode cX6_hashTunnels 38 = .ok (.aload 5, 2) := by decide +kernel
theorem dX6_hashTunnels_40 : decode cX6_hashTunnels 40 = .ok (.iload 6, 2) := by decide +kernel
theorem dX6_hashTunnels_42 : decode cX6_hashTunnels 42 = .ok (.iload 7, 2) := by decide +kernel
theorem dX6_hashTunnels_44 : decode cX6_hashTunnels 44 = .ok (.invokevirtual 213, 3) := by decide +kernel
theorem dX6_hashTunnels_47 : decode cX6_hashTunnels 47 = .ok (.i2l, 1) := by decide +kernel
theorem dX6_hashTunnels_48 : decode cX6_hashTunnels 48 = .ok (.ladd, 1) := by decide +kernel
theorem dX6_hashTunnels_49 : decode cX6_hashTunnels 49 = .ok (.lstore_n 3, 1) := by decide +kernel
theorem dX6_hashTunnels_50 : decode cX6_hashTunnels 50 = .ok (.iinc 7 1, 3) := by decide +kernel
theorem dX6_hashTunnels_53 : decode cX6_hashTunnels 53 = .ok (.goto (-26), 3) := by decide +kernel
theorem dX6_hashTunnels_56 : decode cX6_hashTunnels 56 = .ok (.aload 5, 2) := by decide +kernel
theorem dX6_hashTunnels_58 : decode cX6_hashTunnels 58 = .ok (.iload 6, 2) := by decide +kernel
theorem dX6_hashTunnels_60 : decode cX6_hashTunnels 60 = .ok (.iconst 2, 1) := by decide +kernel
theorem dX6_hashTunnels_61 : decode cX6_hashTunnels 61 = .ok (.invokevirtual 213, 3) := by decide +kernel
theorem dX6_hashTunnels_64 : decode cX6_hashTunnels 64 = .ok (.istore 7, 2) := by decide +kernel
theorem dX6_hashTunnels_66 : decode cX6_hashTunnels 66 = .ok (.iconst 0, 1) := by decide +kernel
theorem dX6_hashTunnels_67 : decode cX6_hashTunnels 67 = .ok (.istore 8, 2) := by decide +kernel
theorem dX6_hashTunnels_69 : decode cX6_hashTunnels 69 = .ok (.iload 8, 2) := by decide +kernel
theorem dX6_hashTunnels_71 : decode cX6_hashTunnels 71 = .ok (.iload 7, 2) := by decide +kernel
theorem dX6_hashTunnels_73 : decode cX6_hashTunnels 73 = .ok (.if_icmp .ge 26, 3) := by decide +kernel
theorem dX6_hashTunnels_76 : decode cX6_hashTunnels 76 = .ok (.ldc2_w 252, 3) := by decide +kernel
theorem dX6_hashTunnels_79 : decode cX6_hashTunnels 79 = .ok (.lload_n 3, 1) := by decide +kernel
theorem dX6_hashTunnels_80 : decode cX6_hashTunnels 80 = .ok (.lmul, 1) := by decide +kernel
theorem dX6_hashTunnels_81 : decode cX6_hashTunnels 81 = .ok (.aload 5, 2) := by decide +kernel
theorem dX6_hashTunnels_83 : decode cX6_hashTunnels 83 = .ok (.iload 6, 2) := by decide +kernel
theorem dX6_hashTunnels_85 : decode cX6_hashTunnels 85 = .ok (.iload 8, 2) := by decide +kernel
theorem dX6_hashTunnels_87 : decode cX6_hashTunnels 87 = .ok (.invokevirtual 217, 3) := by decide +kernel
theorem dX6_hashTunnels_90 : decode cX6_hashTunnels 90 = .ok (.i2l, 1) := by decide +kernel
theorem dX6_hashTunnels_91 : decode cX6_hashTunnels 91 = .ok (.ladd, 1) := by decide +kernel
theorem dX6_hashTunnels_92 : decode cX6_hashTunnels 92 = .ok (.lstore_n 3, 1) := by decide +kernel
theorem dX6_hashTunnels_93 : decode cX6_hashTunnels 93 = .ok (.iinc 8 1, 3) := by decide +kernel
theorem dX6_hashTunnels_96 : decode cX6_hashTunnels 96 = .ok (.goto (-27), 3) := by decide +kernel
theorem dX6_hashTunnels_99 : decode cX6_hashTunnels 99 = .ok (.iinc 6 1, 3) := by decide +kernel
theorem dX6_hashTunnels_102 : decode cX6_hashTunnels 102 = .ok (.goto (-88), 3) := by decide +kernel
theorem dX6_hashTunnels_105 : decode cX6_hashTunnels 105 = .ok (.lload_n 3, 1) := by decide +kernel
theorem dX6_hashTunnels_106 : decode cX6_hashTunnels 106 = .ok (.lreturn, 1) := by decide +kernel
theorem lg_wsX6_hashPaths_0 : GoodIn wsX6_hashPaths wsX6_hashPaths_r1 := goodIn_sub (fun _ h => (List.mem_cons_of_mem _ (List.mem_append_left _ (List.mem_append_left _ (List.mem_append_left _ (List.mem_append_left _ (List.mem_append_left _ h))))))) (by decide +kernel)
theorem lg_wsX6_hashPaths_1 : GoodIn wsX6_hashPaths wsX6_hashPaths_r2 := goodIn_sub (fun _ h => (List.mem_cons_of_mem _ (List.mem_append_left _ (List.mem_append_left _ (List.mem_append_left _ (List.mem_append_left _ (List.mem_append_right _ (List.mem_append_left _ h)))))))) (by decide +kernel)
theorem lg_wsX6_hashPaths_2 : GoodIn wsX6_hashPaths wsX6_hashPaths_r3 := goodIn_sub (fun _ h => (List.mem_cons_of_mem _ (List.mem_append_left _ (List.mem_append_left _ (List.mem_append_left _ (List.mem_append_left _ (List.mem_append_right _ (List.mem_append_right _ h)))))))) (by decide +kernel)
theorem ls_wsX6_hashPaths_0 : GoodIn wsX6_hashPaths wsX60 := goodIn_sub (fun _ h => (List.mem_cons_of_mem _ (List.mem_append_left _ (List.mem_append_left _ (List.mem_append_left _ (List.mem_append_right _ h)))))) (by decide +kernel)
theorem ls_wsX6_hashPaths_1 : GoodIn wsX6_hashPaths wsX00 := goodIn_sub (fun _ h => (List.mem_cons_of_mem _ (List.mem_append_left _ (List.mem_append_left _ (List.mem_append_right _ h))))) (by decide +kernel)
theorem ls_wsX6_hashPaths_2 : GoodIn wsX6_hashPaths wsX20 := goodIn_sub (fun _ h => (List.mem_cons_of_mem _ (List.mem_append_left _ (List.mem_append_right _ h)))) (by decide +kernel)
theorem ls_wsX6_hashPaths_3 : GoodIn wsX6_hashPaths wsX30 := goodIn_sub (fun _ h => (List.mem_cons_of_mem _ (List.mem_append_right _ h))) (by decide +kernel)
set_option maxRecDepth 20000 in
theorem ggX6_hashPaths_X0_lowestMound : GoodIn wsX6_hashPaths wsX0_lowestMound := (gi_cons (lg_wsX6_hashPaths_0 _ (List.mem_of_getElem? (i := 9) rfl)) (goodIn_app (gi_cons (lg_wsX6_hashPaths_0 _ (List.mem_of_getElem? (i := 10) rfl)) gi_nil) ls_wsX6_hashPaths_1))
set_option maxRecDepth 20000 in
theorem gX6_hashPaths_X0_lowestMound : GoodIn wsX6_hashPaths (wsV RX6 331 RX0 yX0_lowestMound wsX0_lowestMound) := goodIn_app (gi_cons (lg_wsX6_hashPaths_0 _ (List.mem_of_getElem? (i := 5) rfl)) (gi_cons (lg_wsX6_hashPaths_0 _ (List.mem_of_getElem? (i := 6) rfl)) (gi_cons (lg_wsX6_hashPaths_0 _ (List.mem_of_getElem? (i := 7) rfl)) (gi_cons (lg_wsX6_hashPaths_0 _ (List.mem_of_getElem? (i := 8) rfl)) gi_nil)))) ggX6_hashPaths_X0_lowestMound
set_option maxRecDepth 20000 in
theorem ggX6_hashPaths_X2_measure : GoodIn wsX6_hashPaths wsX2_measure := (gi_cons (lg_wsX6_hashPaths_0 _ (List.mem_of_getElem? (i := 15) rfl)) (goodIn_app (goodIn_app (goodIn_app (goodIn_app (gi_cons (lg_wsX6_hashPaths_0 _ (List.mem_of_getElem? (i := 16) rfl)) (gi_cons (lg_wsX6_hashPaths_0 _ (List.mem_of_getElem? (i := 17) rfl)) (gi_cons (lg_wsX6_hashPaths_0 _ (List.mem_of_getElem? (i := 18) rfl)) (gi_cons (lg_wsX6_hashPaths_0 _ (List.mem_of_getElem? (i := 19) rfl)) (gi_cons (lg_wsX6_hashPaths_0 _ (List.mem_of_getElem? (i := 20) rfl)) (gi_cons (lg_wsX6_hashPaths_0 _ (List.mem_of_getElem? (i := 21) rfl)) (gi_cons (lg_wsX6_hashPaths_0 _ (List.mem_of_getElem? (i := 22) rfl)) (gi_cons (lg_wsX6_hashPaths_0 _ (List.mem_of_getElem? (i := 23) rfl)) (gi_cons (lg_wsX6_hashPaths_1 _ (List.mem_of_getElem? (i := 0) rfl)) (gi_cons (lg_wsX6_hashPaths_1 _ (List.mem_of_getElem? (i := 1) rfl)) (gi_cons (lg_wsX6_hashPaths_1 _ (List.mem_of_getElem? (i := 2) rfl)) (gi_cons (lg_wsX6_hashPaths_1 _ (List.mem_of_getElem? (i := 3) rfl)) (gi_cons (lg_wsX6_hashPaths_1 _ (List.mem_of_getElem? (i := 4) rfl)) (gi_cons (lg_wsX6_hashPaths_1 _ (List.mem_of_getElem? (i := 5) rfl)) (gi_cons (lg_wsX6_hashPaths_1 _ (List.mem_of_getElem? (i := 6) rfl)) (gi_cons (lg_wsX6_hashPaths_1 _ (List.mem_of_getElem? (i := 7) rfl)) (gi_cons (lg_wsX6_hashPaths_1 _ (List.mem_of_getElem? (i := 8) rfl)) (gi_cons (lg_wsX6_hashPaths_1 _ (List.mem_of_getElem? (i := 9) rfl)) (gi_cons (lg_wsX6_hashPaths_1 _ (List.mem_of_getElem? (i := 10) rfl)) (gi_cons (lg_wsX6_hashPaths_1 _ (List.mem_of_getElem? (i := 11) rfl)) (gi_cons (lg_wsX6_hashPaths_1 _ (List.mem_of_getElem? (i := 12) rfl)) (gi_cons (lg_wsX6_hashPaths_1 _ (List.mem_of_getElem? (i := 13) rfl)) (gi_cons (lg_wsX6_hashPaths_1 _ (List.mem_of_getElem? (i := 14) rfl)) (gi_cons (lg_wsX6_hashPaths_1 _ (List.mem_of_getElem? (i := 15) rfl)) gi_nil)))))))))))))))))))))))) (gi_cons (lg_wsX6_hashPaths_1 _ (List.mem_of_getElem? (i := 16) rfl)) (gi_cons (lg_wsX6_hashPaths_1 _ (List.mem_of_getElem? (i := 17) rfl)) (gi_cons (lg_wsX6_hashPaths_1 _ (List.mem_of_getElem? (i := 18) rfl)) (gi_cons (lg_wsX6_hashPaths_1 _ (List.mem_of_getElem? (i := 19) rfl)) (gi_cons (lg_wsX6_hashPaths_1 _ (List.mem_of_getElem? (i := 20) rfl)) (gi_cons (lg_wsX6_hashPaths_1 _ (List.mem_of_getElem? (i := 21) rfl)) (gi_cons (lg_wsX6_hashPaths_0 _ (List.mem_of_getElem? (i := 14) rfl)) (gi_cons (lg_wsX6_hashPaths_1 _ (List.mem_of_getElem? (i := 22) rfl)) (gi_cons (lg_wsX6_hashPaths_1 _ (List.mem_of_getElem? (i := 23) rfl)) (gi_cons (lg_wsX6_hashPaths_2 _ (List.mem_of_getElem? (i := 0) rfl)) (gi_cons (lg_wsX6_hashPaths_2 _ (List.mem_of_getElem? (i := 1) rfl)) (gi_cons (lg_wsX6_hashPaths_2 _ (List.mem_of_getElem? (i := 2) rfl)) gi_nil))))))))))))) ls_wsX6_hashPaths_2) ls_wsX6_hashPaths_1) ls_wsX6_hashPaths_3))
set_option maxRecDepth 20000 in
theorem gX6_hashPaths_X2_measure : GoodIn wsX6_hashPaths (wsV RX6 223 RX2 yX2_measure wsX2_measure) := goodIn_app (gi_cons (lg_wsX6_hashPaths_0 _ (List.mem_of_getElem? (i := 11) rfl)) (gi_cons (lg_wsX6_hashPaths_0 _ (List.mem_of_getElem? (i := 12) rfl)) (gi_cons (lg_wsX6_hashPaths_0 _ (List.mem_of_getElem? (i := 13) rfl)) (gi_cons (lg_wsX6_hashPaths_0 _ (List.mem_of_getElem? (i := 14) rfl)) gi_nil)))) ggX6_hashPaths_X2_measure
theorem dX6_hashPaths_0 : decode cX6_hashPaths 0 = .ok (.lload_n 1, 1) := by decide +kernel
theorem dX6_hashPaths_1 : decode cX6_hashPaths 1 = .ok (.lstore_n 3, 1) := by decide +kernel
theorem dX6_hashPaths_2 : decode cX6_hashPaths 2 = .ok (.aload_n 0, 1) := by decide +kernel
theorem dX6_hashPaths_3 : decode cX6_hashPaths 3 = .ok (.getfield 15, 3) := by decide +kernel
theorem dX6_hashPaths_6 : decode cX6_hashPaths 6 = .ok (.invokevirtual 331, 3) := by decide +kernel
theorem dX6_hashPaths_9 : decode cX6_hashPaths 9 = .ok (.istore 5, 2) := by decide +kernel
theorem dX6_hashPaths_11 : decode cX6_hashPaths 11 = .ok (.iload 5, 2) := by decide +kernel
theorem dX6_hashPaths_13 : decode cX6_hashPaths 13 = .ok (.iconst (-1), 1) := by decide +kernel
theorem dX6_hashPaths_14 : decode cX6_hashPaths 14 = .ok (.if_icmp .ne 5, 3) := by decide +kernel
theorem dX6_hashPaths_17 : decode cX6_hashPaths 17 = .ok (.lload_n 3, 1) := by decide +kernel
theorem dX6_hashPaths_18 : decode cX6_hashPaths 18 = .ok (.lreturn, 1) := by decide +kernel
theorem dX6_hashPaths_19 : decode cX6_hashPaths 19 = .ok (.aload_n 0, 1) := by decide +kernel
theorem dX6_hashPaths_20 : decode cX6_hashPaths 20 = .ok (.getfield 48, 3) := by decide +kernel
theorem dX6_hashPaths_23 : decode cX6_hashPaths 23 = .ok (.aload_n 0, 1) := by decide +kernel
theorem dX6_hashPaths_24 : decode cX6_hashPaths 24 = .ok (.getfield 15, 3) := by decide +kernel
theorem dX6_hashPaths_27 : decode cX6_hashPaths 27 = .ok (.iload 5, 2) := by decide +kernel
theorem dX6_hashPaths_29 : decode cX6_hashPaths 29 = .ok (.invokevirtual 223, 3) := by decide +kernel
theorem dX6_hashPaths_32 : decode cX6_hashPaths 32 = .ok (.iconst 0, 1) := by decide +kernel
theorem dX6_hashPaths_33 : decode cX6_hashPaths 33 = .ok (.istore 6, 2) := by decide +kernel
theorem dX6_hashPaths_35 : decode cX6_hashPaths 35 = .ok (.iload 6, 2) := by decide +kernel
theorem dX6_hashPaths_37 : decode cX6_hashPaths 37 = .ok (.bipush 64, 2) := by decide +kernel
theorem dX6_hashPaths_39 : decode cX6_hashPaths 39 = .ok (.if_icmp .ge 40, 3) := by decide +kernel
theorem dX6_hashPaths_42 : decode cX6_hashPaths 42 = .ok (.aload_n 0, 1) := by decide +kernel
theorem dX6_hashPaths_43 : decode cX6_hashPaths 43 = .ok (.getfield 15, 3) := by decide +kernel
theorem dX6_hashPaths_46 : decode cX6_hashPaths 46 = .ok (.getfield 125, 3) := by decide +kernel
theorem dX6_hashPaths_49 : decode cX6_hashPaths 49 = .ok (.iload 6, 2) := by decide +kernel
theorem dX6_hashPaths_51 : decode cX6_hashPaths 51 = .ok (.baload, 1) := by decide +kernel
theorem dX6_hashPaths_52 : decode cX6_hashPaths 52 = .ok (.ifCond .eq 21, 3) := by decide +kernel
theorem dX6_hashPaths_55 : decode cX6_hashPaths 55 = .ok (.ldc2_w 252, 3) := by decide +kernel
theorem dX6_hashPaths_58 : decode cX6_hashPaths 58 = .ok (.lload_n 3, 1) := by decide +kernel
theorem dX6_hashPaths_59 : decode cX6_hashPaths 59 = .ok (.lmul, 1) := by decide +kernel
theorem dX6_hashPaths_60 : decode cX6_hashPaths 60 = .ok (.aload_n 0, 1) := by decide +kernel
theorem dX6_hashPaths_61 : decode cX6_hashPaths 61 = .ok (.getfield 48, 3) := by decide +kernel
theorem dX6_hashPaths_64 : decode cX6_hashPaths 64 = .ok (.getfield 227, 3) := by decide +kernel
theorem dX6_hashPaths_67 : decode cX6_hashPaths 67 = .ok (.iload 6, 2) := by decide +kernel
theorem dX6_hashPaths_69 : decode cX6_hashPaths 69 = .ok (.iaload, 1) := by decide +kernel
theorem dX6_hashPaths_70 : decode cX6_hashPaths 70 = .ok (.i2l, 1) := by decide +kernel
theorem dX6_hashPaths_71 : decode cX6_hashPaths 71 = .ok (.ladd, 1) := by decide +kernel
theorem dX6_hashPaths_72 : decode cX6_hashPaths 72 = .ok (.lstore_n 3, 1) := by decide +kernel
theorem dX6_hashPaths_73 : decode cX6_hashPaths 73 = .ok (.iinc 6 1, 3) := by decide +kernel
theorem dX6_hashPaths_76 : decode cX6_hashPaths 76 = .ok (.goto (-41), 3) := by decide +kernel
theorem dX6_hashPaths_79 : decode cX6_hashPaths 79 = .ok (.lload_n 3, 1) := by decide +kernel
theorem dX6_hashPaths_80 : decode cX6_hashPaths 80 = .ok (.lreturn, 1) := by decide +kernel
theorem lg_wsX6_hashDigging_0 : GoodIn wsX6_hashDigging ([.constantLong RX6 252 (31), .fieldLink RX6 41 "MolesLawn" "survey" "LMolesLawn$Survey;", .fieldLink RX6 300 "MolesLawn$Survey" "crossings" "[I", .methodLink RX6 236 yX6_mostCrossed, .instanceMethod yX6_mostCrossed, .selects RX6 yX6_mostCrossed yX6_mostCrossed, .initialized RX6, .code yX6_mostCrossed cX6_mostCrossed 4 (some .int), .fieldLink RX6 15 "MolesLawn" "lawn" "LMolesLawn$Lawn;", .fieldLink RX6 294 "MolesLawn$Lawn" "opened" "[Z"] : List Cond) := goodIn_sub (fun _ h => (List.mem_cons_of_mem _ (List.mem_append_left _ (List.mem_append_left _ (List.mem_append_left _ h))))) (by decide +kernel)
theorem ls_wsX6_hashDigging_0 : GoodIn wsX6_hashDigging wsX60 := goodIn_sub (fun _ h => (List.mem_cons_of_mem _ (List.mem_append_left _ (List.mem_append_left _ (List.mem_append_right _ h))))) (by decide +kernel)
theorem ls_wsX6_hashDigging_1 : GoodIn wsX6_hashDigging wsX40 := goodIn_sub (fun _ h => (List.mem_cons_of_mem _ (List.mem_append_left _ (List.mem_append_right _ h)))) (by decide +kernel)
theorem ls_wsX6_hashDigging_2 : GoodIn wsX6_hashDigging wsX00 := goodIn_sub (fun _ h => (List.mem_cons_of_mem _ (List.mem_append_right _ h))) (by decide +kernel)
set_option maxRecDepth 20000 in
theorem ggX6_hashDigging_X6_mostCrossed : GoodIn wsX6_hashDigging wsX6_mostCrossed := (gi_cons (lg_wsX6_hashDigging_0 _ (List.mem_of_getElem? (i := 7) rfl)) (goodIn_app (goodIn_app (goodIn_app (gi_cons (lg_wsX6_hashDigging_0 _ (List.mem_of_getElem? (i := 8) rfl)) (gi_cons (lg_wsX6_hashDigging_0 _ (List.mem_of_getElem? (i := 9) rfl)) (gi_cons (lg_wsX6_hashDigging_0 _ (List.mem_of_getElem? (i := 1) rfl)) (gi_cons (lg_wsX6_hashDigging_0 _ (List.mem_of_getElem? (i := 2) rfl)) gi_nil)))) ls_wsX6_hashDigging_0) ls_wsX6_hashDigging_2) ls_wsX6_hashDigging_1))
set_option maxRecDepth 20000 in
theorem gX6_hashDigging_X6_mostCrossed : GoodIn wsX6_hashDigging (wsV RX6 236 RX6 yX6_mostCrossed wsX6_mostCrossed) := goodIn_app (gi_cons (lg_wsX6_hashDigging_0 _ (List.mem_of_getElem? (i := 3) rfl)) (gi_cons (lg_wsX6_hashDigging_0 _ (List.mem_of_getElem? (i := 4) rfl)) (gi_cons (lg_wsX6_hashDigging_0 _ (List.mem_of_getElem? (i := 5) rfl)) (gi_cons (lg_wsX6_hashDigging_0 _ (List.mem_of_getElem? (i := 6) rfl)) gi_nil)))) ggX6_hashDigging_X6_mostCrossed
theorem dX6_hashDigging_0 : decode cX6_hashDigging 0 = .ok (.lload_n 1, 1) := by decide +kernel
theorem dX6_hashDigging_1 : decode cX6_hashDigging 1 = .ok (.lstore_n 3, 1) := by decide +kernel
theorem dX6_hashDigging_2 : decode cX6_hashDigging 2 = .ok (.iconst 0, 1) := by decide +kernel
theorem dX6_hashDigging_3 : decode cX6_hashDigging 3 = .ok (.istore 5, 2) := by decide +kernel
theorem dX6_hashDigging_5 : decode cX6_hashDigging 5 = .ok (.iload 5, 2) := by decide +kernel
theorem dX6_hashDigging_7 : decode cX6_hashDigging 7 = .ok (.bipush 64, 2) := by decide +kernel
theorem dX6_hashDigging_9 : decode cX6_hashDigging 9 = .ok (.if_icmp .ge 27, 3) := by decide +kernel
theorem dX6_hashDigging_12 : decode cX6_hashDigging 12 = .ok (.ldc2_w 252, 3) := by decide +kernel
theorem dX6_hashDigging_15 : decode cX6_hashDigging 15 = .ok (.lload_n 3, 1) := by decide +kernel
theorem dX6_hashDigging_16 : decode cX6_hashDigging 16 = .ok (.lmul, 1) := by decide +kernel
theorem dX6_hashDigging_17 : decode cX6_hashDigging 17 = .ok (.aload_n 0, 1) := by decide +kernel
theorem dX6_hashDigging_18 : decode cX6_hashDigging 18 = .ok (.getfield 41, 3) := by decide +kernel
theorem dX6_hashDigging_21 : decode cX6_hashDigging 21 = .ok (.getfield 300, 3) := by decide +kernel
theorem dX6_hashDigging_24 : decode cX6_hashDigging 24 = .ok (.iload 5, 2) := by decide +kernel
theorem dX6_hashDigging_26 : decode cX6_hashDigging 26 = .ok (.iaload, 1) := by decide +kernel
theorem dX6_hashDigging_27 : decode cX6_hashDigging 27 = .ok (.i2l, 1) := by decide +kernel
theorem dX6_hashDigging_28 : decode cX6_hashDigging 28 = .ok (.ladd, 1) := by decide +kernel
theorem dX6_hashDigging_29 : decode cX6_hashDigging 29 = .ok (.lstore_n 3, 1) := by decide +kernel
theorem dX6_hashDigging_30 : decode cX6_hashDigging 30 = .ok (.iinc 5 1, 3) := by decide +kernel
theorem dX6_hashDigging_33 : decode cX6_hashDigging 33 = .ok (.goto (-28), 3) := by decide +kernel
theorem dX6_hashDigging_36 : decode cX6_hashDigging 36 = .ok (.ldc2_w 252, 3) := by decide +kernel
theorem dX6_hashDigging_39 : decode cX6_hashDigging 39 = .ok (.lload_n 3, 1) := by decide +kernel
theorem dX6_hashDigging_40 : decode cX6_hashDigging 40 = .ok (.lmul, 1) := by decide +kernel
theorem dX6_hashDigging_41 : decode cX6_hashDigging 41 = .ok (.aload_n 0, 1) := by decide +kernel
theorem dX6_hashDigging_42 : decode cX6_hashDigging 42 = .ok (.invokevirtual 236, 3) := by decide +kernel
theorem dX6_hashDigging_45 : decode cX6_hashDigging 45 = .ok (.i2l, 1) := by decide +kernel
theorem dX6_hashDigging_46 : decode cX6_hashDigging 46 = .ok (.ladd, 1) := by decide +kernel
theorem dX6_hashDigging_47 : decode cX6_hashDigging 47 = .ok (.lreturn, 1) := by decide +kernel
theorem dX6_bitsOfShare_0 : decode cX6_bitsOfShare 0 = .ok (.iload_n 0, 1) := by decide +kernel
theorem dX6_bitsOfShare_1 : decode cX6_bitsOfShare 1 = .ok (.ifCond .gt 5, 3) := by decide +kernel
theorem dX6_bitsOfShare_4 : decode cX6_bitsOfShare 4 = .ok (.lconst 0, 1) := by decide +kernel
theorem dX6_bitsOfShare_5 : decode cX6_bitsOfShare 5 = .ok (.lreturn, 1) := by decide +kernel
theorem dX6_bitsOfShare_6 : decode cX6_bitsOfShare 6 = .ok (.iconst 0, 1) := by decide +kernel
theorem dX6_bitsOfShare_7 : decode cX6_bitsOfShare 7 = .ok (.istore_n 1, 1) := by decide +kernel
theorem dX6_bitsOfShare_8 : decode cX6_bitsOfShare 8 = .ok (.iload_n 1, 1) := by decide +kernel
theorem dX6_bitsOfShare_9 : decode cX6_bitsOfShare 9 = .ok (.bipush 30, 2) := by decide +kernel
theorem dX6_bitsOfShare_11 : decode cX6_bitsOfShare 11 = .ok (.if_icmp .ge 17, 3) := by decide +kernel
theorem dX6_bitsOfShare_14 : decode cX6_bitsOfShare 14 = .ok (.iload_n 0, 1) := by decide +kernel
theorem dX6_bitsOfShare_15 : decode cX6_bitsOfShare 15 = .ok (.iload_n 1, 1) := by decide +kernel
theorem dX6_bitsOfShare_16 : decode cX6_bitsOfShare 16 = .ok (.iconst 1, 1) := by decide +kernel
theorem dX6_bitsOfShare_17 : decode cX6_bitsOfShare 17 = .ok (.iadd, 1) := by decide +kernel
theorem dX6_bitsOfShare_18 : decode cX6_bitsOfShare 18 = .ok (.ishr, 1) := by decide +kernel
theorem dX6_bitsOfShare_19 : decode cX6_bitsOfShare 19 = .ok (.ifCond .eq 9, 3) := by decide +kernel
theorem dX6_bitsOfShare_22 : decode cX6_bitsOfShare 22 = .ok (.iinc 1 1, 3) := by decide +kernel
theorem dX6_bitsOfShare_25 : decode cX6_bitsOfShare 25 = .ok (.goto (-17), 3) := by decide +kernel
theorem dX6_bitsOfShare_28 : decode cX6_bitsOfShare 28 = .ok (.iload_n 0, 1) := by decide +kernel
theorem dX6_bitsOfShare_29 : decode cX6_bitsOfShare 29 = .ok (.i2l, 1) := by decide +kernel
theorem dX6_bitsOfShare_30 : decode cX6_bitsOfShare 30 = .ok (.lconst 1, 1) := by decide +kernel
theorem dX6_bitsOfShare_31 : decode cX6_bitsOfShare 31 = .ok (.iload_n 1, 1) := by decide +kernel
theorem dX6_bitsOfShare_32 : decode cX6_bitsOfShare 32 = .ok (.lshl, 1) := by decide +kernel
theorem dX6_bitsOfShare_33 : decode cX6_bitsOfShare 33 = .ok (.lsub, 1) := by decide +kernel
theorem dX6_bitsOfShare_34 : decode cX6_bitsOfShare 34 = .ok (.lstore_n 2, 1) := by decide +kernel
theorem dX6_bitsOfShare_35 : decode cX6_bitsOfShare 35 = .ok (.sipush 1023, 3) := by decide +kernel
theorem dX6_bitsOfShare_38 : decode cX6_bitsOfShare 38 = .ok (.iload_n 1, 1) := by decide +kernel
theorem dX6_bitsOfShare_39 : decode cX6_bitsOfShare 39 = .ok (.iadd, 1) := by decide +kernel
theorem dX6_bitsOfShare_40 : decode cX6_bitsOfShare 40 = .ok (.bipush 6, 2) := by decide +kernel
theorem dX6_bitsOfShare_42 : decode cX6_bitsOfShare 42 = .ok (.isub, 1) := by decide +kernel
theorem dX6_bitsOfShare_43 : decode cX6_bitsOfShare 43 = .ok (.i2l, 1) := by decide +kernel
theorem dX6_bitsOfShare_44 : decode cX6_bitsOfShare 44 = .ok (.lstore 4, 2) := by decide +kernel
theorem dX6_bitsOfShare_46 : decode cX6_bitsOfShare 46 = .ok (.lload 4, 2) := by decide +kernel
theorem dX6_bitsOfShare_48 : decode cX6_bitsOfShare 48 = .ok (.bipush 52, 2) := by decide +kernel
theorem dX6_bitsOfShare_50 : decode cX6_bitsOfShare 50 = .ok (.lshl, 1) := by decide +kernel
theorem dX6_bitsOfShare_51 : decode cX6_bitsOfShare 51 = .ok (.lload_n 2, 1) := by decide +kernel
theorem dX6_bitsOfShare_52 : decode cX6_bitsOfShare 52 = .ok (.bipush 52, 2) := by decide +kernel
theorem dX6_bitsOfShare_54 : decode cX6_bitsOfShare 54 = .ok (.iload_n 1, 1) := by decide +kernel
theorem dX6_bitsOfShare_55 : decode cX6_bitsOfShare 55 = .ok (.isub, 1) := by decide +kernel
theorem dX6_bitsOfShare_56 : decode cX6_bitsOfShare 56 = .ok (.lshl, 1) := by decide +kernel
theorem dX6_bitsOfShare_57 : decode cX6_bitsOfShare 57 = .ok (.lor, 1) := by decide +kernel
theorem dX6_bitsOfShare_58 : decode cX6_bitsOfShare 58 = .ok (.lreturn, 1) := by decide +kernel
theorem dX6_tuftAt_0 : decode cX6_tuftAt 0 = .ok (.iload_n 0, 1) := by decide +kernel
theorem dX6_tuftAt_1 : decode cX6_tuftAt 1 = .ok (.ifCond .lt 19, 3) := by decide +kernel
theorem dX6_tuftAt_4 : decode cX6_tuftAt 4 = .ok (.iload_n 0, 1) := by decide +kernel
theorem dX6_tuftAt_5 : decode cX6_tuftAt 5 = .ok (.bipush 8, 2) := by decide +kernel
theorem dX6_tuftAt_7 : decode cX6_tuftAt 7 = .ok (.if_icmp .ge 13, 3) := by decide +kernel
theorem dX6_tuftAt_10 : decode cX6_tuftAt 10 = .ok (.iload_n 1, 1) := by decide +kernel
theorem dX6_tuftAt_11 : decode cX6_tuftAt 11 = .ok (.ifCond .lt 9, 3) := by decide +kernel
theorem dX6_tuftAt_14 : decode cX6_tuftAt 14 = .ok (.iload_n 1, 1) := by decide +kernel
theorem dX6_tuftAt_15 : decode cX6_tuftAt 15 = .ok (.bipush 8, 2) := by decide +kernel
theorem dX6_tuftAt_17 : decode cX6_tuftAt 17 = .ok (.if_icmp .lt 5, 3) := by decide +kernel
theorem dX6_tuftAt_20 : decode cX6_tuftAt 20 = .ok (.iconst (-1), 1) := by decide +kernel
theorem dX6_tuftAt_21 : decode cX6_tuftAt 21 = .ok (.ireturn, 1) := by decide +kernel
theorem dX6_tuftAt_22 : decode cX6_tuftAt 22 = .ok (.iload_n 0, 1) := by decide +kernel
theorem dX6_tuftAt_23 : decode cX6_tuftAt 23 = .ok (.bipush 8, 2) := by decide +kernel
theorem dX6_tuftAt_25 : decode cX6_tuftAt 25 = .ok (.imul, 1) := by decide +kernel
theorem dX6_tuftAt_26 : decode cX6_tuftAt 26 = .ok (.iload_n 1, 1) := by decide +kernel
theorem dX6_tuftAt_27 : decode cX6_tuftAt 27 = .ok (.iadd, 1) := by decide +kernel
theorem dX6_tuftAt_28 : decode cX6_tuftAt 28 = .ok (.ireturn, 1) := by decide +kernel
theorem lg_wsX6_stepFrom_0 : GoodIn wsX6_stepFrom ([.fieldLink RX6 334 "MolesLawn" "ROW_STEP" "[I", .fieldLink RX6 337 "MolesLawn" "COLUMN_STEP" "[I", .methodLink RX6 340 yX6_tuftAt, .static yX6_tuftAt, .initialized RX6, .code yX6_tuftAt cX6_tuftAt 2 (some .int)] : List Cond) := goodIn_sub (fun _ h => (List.mem_cons_of_mem _ h)) (by decide +kernel)
set_option maxRecDepth 20000 in
theorem ggX6_stepFrom_X6_tuftAt : GoodIn wsX6_stepFrom wsX6_tuftAt := (gi_cons (lg_wsX6_stepFrom_0 _ (List.mem_of_getElem? (i := 5) rfl)) gi_nil)
set_option maxRecDepth 20000 in
theorem gX6_stepFrom_X6_tuftAt : GoodIn wsX6_stepFrom (va_wsS RX6 340 yX6_tuftAt wsX6_tuftAt) := goodIn_app (gi_cons (lg_wsX6_stepFrom_0 _ (List.mem_of_getElem? (i := 2) rfl)) (gi_cons (lg_wsX6_stepFrom_0 _ (List.mem_of_getElem? (i := 3) rfl)) (gi_cons (lg_wsX6_stepFrom_0 _ (List.mem_of_getElem? (i := 4) rfl)) gi_nil))) ggX6_stepFrom_X6_tuftAt
theorem dX6_stepFrom_0 : decode cX6_stepFrom 0 = .ok (.iload_n 1, 1) := by decide +kernel
theorem dX6_stepFrom_1 : decode cX6_stepFrom 1 = .ok (.ifCond .lt 8, 3) := by decide +kernel
theorem dX6_stepFrom_4 : decode cX6_stepFrom 4 = .ok (.iload_n 1, 1) := by decide +kernel
theorem dX6_stepFrom_5 : decode cX6_stepFrom 5 = .ok (.iconst 3, 1) := by decide +kernel
theorem dX6_stepFrom_6 : decode cX6_stepFrom 6 = .ok (.if_icmp .le 5, 3) := by decide +kernel
theorem dX6_stepFrom_9 : decode cX6_stepFrom 9 = .ok (.iconst (-1), 1) := by decide +kernel
theorem dX6_stepFrom_10 : decode cX6_stepFrom 10 = .ok (.ireturn, 1) := by decide +kernel
theorem dX6_stepFrom_11 : decode cX6_stepFrom 11 = .ok (.iload_n 0, 1) := by decide +kernel
theorem dX6_stepFrom_12 : decode cX6_stepFrom 12 = .ok (.bipush 8, 2) := by decide +kernel
theorem dX6_stepFrom_14 : decode cX6_stepFrom 14 = .ok (.idiv, 1) := by decide +kernel
theorem dX6_stepFrom_15 : decode cX6_stepFrom 15 = .ok (.getstatic 334, 3) := by decide +kernel
theorem dX6_stepFrom_18 : decode cX6_stepFrom 18 = .ok (.iload_n 1, 1) := by decide +kernel
theorem dX6_stepFrom_19 : decode cX6_stepFrom 19 = .ok (.iaload, 1) := by decide +kernel
theorem dX6_stepFrom_20 : decode cX6_stepFrom 20 = .ok (.iadd, 1) := by decide +kernel
theorem dX6_stepFrom_21 : decode cX6_stepFrom 21 = .ok (.iload_n 0, 1) := by decide +kernel
theorem dX6_stepFrom_22 : decode cX6_stepFrom 22 = .ok (.bipush 8, 2) := by decide +kernel
theorem dX6_stepFrom_24 : decode cX6_stepFrom 24 = .ok (.irem, 1) := by decide +kernel
theorem dX6_stepFrom_25 : decode cX6_stepFrom 25 = .ok (.getstatic 337, 3) := by decide +kernel
theorem dX6_stepFrom_28 : decode cX6_stepFrom 28 = .ok (.iload_n 1, 1) := by decide +kernel
theorem dX6_stepFrom_29 : decode cX6_stepFrom 29 = .ok (.iaload, 1) := by decide +kernel
theorem dX6_stepFrom_30 : decode cX6_stepFrom 30 = .ok (.iadd, 1) := by decide +kernel
theorem dX6_stepFrom_31 : decode cX6_stepFrom 31 = .ok (.invokestatic 340, 3) := by decide +kernel
theorem dX6_stepFrom_34 : decode cX6_stepFrom 34 = .ok (.ireturn, 1) := by decide +kernel
theorem lg_wsX6_neighbour_0 : GoodIn wsX6_neighbour ([.fieldLink RX6 343 "MolesLawn" "ROW_BESIDE" "[I", .fieldLink RX6 346 "MolesLawn" "COLUMN_BESIDE" "[I", .methodLink RX6 340 yX6_tuftAt, .static yX6_tuftAt, .initialized RX6, .code yX6_tuftAt cX6_tuftAt 2 (some .int)] : List Cond) := goodIn_sub (fun _ h => (List.mem_cons_of_mem _ h)) (by decide +kernel)
set_option maxRecDepth 20000 in
theorem ggX6_neighbour_X6_tuftAt : GoodIn wsX6_neighbour wsX6_tuftAt := (gi_cons (lg_wsX6_neighbour_0 _ (List.mem_of_getElem? (i := 5) rfl)) gi_nil)
set_option maxRecDepth 20000 in
theorem gX6_neighbour_X6_tuftAt : GoodIn wsX6_neighbour (va_wsS RX6 340 yX6_tuftAt wsX6_tuftAt) := goodIn_app (gi_cons (lg_wsX6_neighbour_0 _ (List.mem_of_getElem? (i := 2) rfl)) (gi_cons (lg_wsX6_neighbour_0 _ (List.mem_of_getElem? (i := 3) rfl)) (gi_cons (lg_wsX6_neighbour_0 _ (List.mem_of_getElem? (i := 4) rfl)) gi_nil))) ggX6_neighbour_X6_tuftAt
theorem dX6_neighbour_0 : decode cX6_neighbour 0 = .ok (.iload_n 1, 1) := by decide +kernel
theorem dX6_neighbour_1 : decode cX6_neighbour 1 = .ok (.ifCond .lt 9, 3) := by decide +kernel
theorem dX6_neighbour_4 : decode cX6_neighbour 4 = .ok (.iload_n 1, 1) := by decide +kernel
theorem dX6_neighbour_5 : decode cX6_neighbour 5 = .ok (.bipush 8, 2) := by decide +kernel
theorem dX6_neighbour_7 : decode cX6_neighbour 7 = .ok (.if_icmp .lt 5, 3) := by decide +kernel
theorem dX6_neighbour_10 : decode cX6_neighbour 10 = .ok (.iconst (-1), 1) := by decide +kernel
theorem dX6_neighbour_11 : decode cX6_neighbour 11 = .ok (.ireturn, 1) := by decide +kernel
theorem dX6_neighbour_12 : decode cX6_neighbour 12 = .ok (.iload_n 0, 1) := by decide +kernel
theorem dX6_neighbour_13 : decode cX6_neighbour 13 = .ok (.bipush 8, 2) := by decide +kernel
theorem dX6_neighbour_15 : decode cX6_neighbour 15 = .ok (.idiv, 1) := by decide +kernel
theorem dX6_neighbour_16 : decode cX6_neighbour 16 = .ok (.getstatic 343, 3) := by decide +kernel
theorem dX6_neighbour_19 : decode cX6_neighbour 19 = .ok (.iload_n 1, 1) := by decide +kernel
theorem dX6_neighbour_20 : decode cX6_neighbour 20 = .ok (.iaload, 1) := by decide +kernel
theorem dX6_neighbour_21 : decode cX6_neighbour 21 = .ok (.iadd, 1) := by decide +kernel
theorem dX6_neighbour_22 : decode cX6_neighbour 22 = .ok (.iload_n 0, 1) := by decide +kernel
theorem dX6_neighbour_23 : decode cX6_neighbour 23 = .ok (.bipush 8, 2) := by decide +kernel
theorem dX6_neighbour_25 : decode cX6_neighbour 25 = .ok (.irem, 1) := by decide +kernel
theorem dX6_neighbour_26 : decode cX6_neighbour 26 = .ok (.getstatic 346, 3) := by decide +kernel
theorem dX6_neighbour_29 : decode cX6_neighbour 29 = .ok (.iload_n 1, 1) := by decide +kernel
theorem dX6_neighbour_30 : decode cX6_neighbour 30 = .ok (.iaload, 1) := by decide +kernel
theorem dX6_neighbour_31 : decode cX6_neighbour 31 = .ok (.iadd, 1) := by decide +kernel
theorem dX6_neighbour_32 : decode cX6_neighbour 32 = .ok (.invokestatic 340, 3) := by decide +kernel
theorem dX6_neighbour_35 : decode cX6_neighbour 35 = .ok (.ireturn, 1) := by decide +kernel
theorem dX7_init_0 : decode cX7_init 0 = .ok (.aload_n 0, 1) := by decide +kernel
theorem dX7_init_1 : decode cX7_init 1 = .ok (.invokespecial 1, 3) := by decide +kernel
theorem dX7_init_4 : decode cX7_init 4 = .ok (.aload_n 0, 1) := by decide +kernel
theorem dX7_init_5 : decode cX7_init 5 = .ok (.sipush 1472, 3) := by decide +kernel
theorem dX7_init_8 : decode cX7_init 8 = .ok (.newarray .int, 2) := by decide +kernel
theorem dX7_init_10 : decode cX7_init 10 = .ok (.putfield 7, 3) := by decide +kernel
theorem dX7_init_13 : decode cX7_init 13 = .ok (.aload_n 0, 1) := by decide +kernel
theorem dX7_init_14 : decode cX7_init 14 = .ok (.sipush 1472, 3) := by decide +kernel
theorem dX7_init_17 : decode cX7_init 17 = .ok (.newarray .int, 2) := by decide +kernel
theorem dX7_init_19 : decode cX7_init 19 = .ok (.putfield 13, 3) := by decide +kernel
theorem dX7_init_22 : decode cX7_init 22 = .ok (.aload_n 0, 1) := by decide +kernel
theorem dX7_init_23 : decode cX7_init 23 = .ok (.sipush 1472, 3) := by decide +kernel
theorem dX7_init_26 : decode cX7_init 26 = .ok (.newarray .int, 2) := by decide +kernel
theorem dX7_init_28 : decode cX7_init 28 = .ok (.putfield 16, 3) := by decide +kernel
theorem dX7_init_31 : decode cX7_init 31 = .ok (.aload_n 0, 1) := by decide +kernel
theorem dX7_init_32 : decode cX7_init 32 = .ok (.sipush 8832, 3) := by decide +kernel
theorem dX7_init_35 : decode cX7_init 35 = .ok (.newarray .int, 2) := by decide +kernel
theorem dX7_init_37 : decode cX7_init 37 = .ok (.putfield 19, 3) := by decide +kernel
theorem dX7_init_40 : decode cX7_init 40 = .ok (.aload_n 0, 1) := by decide +kernel
theorem dX7_init_41 : decode cX7_init 41 = .ok (.bipush 60, 2) := by decide +kernel
theorem dX7_init_43 : decode cX7_init 43 = .ok (.newarray .int, 2) := by decide +kernel
theorem dX7_init_45 : decode cX7_init 45 = .ok (.putfield 22, 3) := by decide +kernel
theorem dX7_init_48 : decode cX7_init 48 = .ok (.aload_n 0, 1) := by decide +kernel
theorem dX7_init_49 : decode cX7_init 49 = .ok (.sipush 1024, 3) := by decide +kernel
theorem dX7_init_52 : decode cX7_init 52 = .ok (.newarray .int, 2) := by decide +kernel
theorem dX7_init_54 : decode cX7_init 54 = .ok (.putfield 25, 3) := by decide +kernel
theorem dX7_init_57 : decode cX7_init 57 = .ok (.aload_n 0, 1) := by decide +kernel
theorem dX7_init_58 : decode cX7_init 58 = .ok (.bipush 64, 2) := by decide +kernel
theorem dX7_init_60 : decode cX7_init 60 = .ok (.newarray .boolean, 2) := by decide +kernel
theorem dX7_init_62 : decode cX7_init 62 = .ok (.putfield 28, 3) := by decide +kernel
theorem dX7_init_65 : decode cX7_init 65 = .ok (.aload_n 0, 1) := by decide +kernel
theorem dX7_init_66 : decode cX7_init 66 = .ok (.bipush 64, 2) := by decide +kernel
theorem dX7_init_68 : decode cX7_init 68 = .ok (.newarray .int, 2) := by decide +kernel
theorem dX7_init_70 : decode cX7_init 70 = .ok (.putfield 32, 3) := by decide +kernel
theorem dX7_init_73 : decode cX7_init 73 = .ok (.aload_n 0, 1) := by decide +kernel
theorem dX7_init_74 : decode cX7_init 74 = .ok (.bipush 64, 2) := by decide +kernel
theorem dX7_init_76 : decode cX7_init 76 = .ok (.newarray .int, 2) := by decide +kernel
theorem dX7_init_78 : decode cX7_init 78 = .ok (.putfield 35, 3) := by decide +kernel
theorem dX7_init_81 : decode cX7_init 81 = .ok (.aload_n 0, 1) := by decide +kernel
theorem dX7_init_82 : decode cX7_init 82 = .ok (.getfield 7, 3) := by decide +kernel
theorem dX7_init_85 : decode cX7_init 85 = .ok (.bipush 6, 2) := by decide +kernel
theorem dX7_init_87 : decode cX7_init 87 = .ok (.bipush 6, 2) := by decide +kernel
theorem dX7_init_89 : decode cX7_init 89 = .ok (.iastore, 1) := by decide +kernel
theorem dX7_init_90 : decode cX7_init 90 = .ok (.iconst 0, 1) := by decide +kernel
theorem dX7_init_91 : decode cX7_init 91 = .ok (.istore_n 1, 1) := by decide +kernel
theorem dX7_init_92 : decode cX7_init 92 = .ok (.iload_n 1, 1) := by decide +kernel
theorem dX7_init_93 : decode cX7_init 93 = .ok (.bipush 64, 2) := by decide +kernel
theorem dX7_init_95 : decode cX7_init 95 = .ok (.if_icmp .ge 20, 3) := by decide +kernel
theorem dX7_init_98 : decode cX7_init 98 = .ok (.aload_n 0, 1) := by decide +kernel
theorem dX7_init_99 : decode cX7_init 99 = .ok (.getfield 7, 3) := by decide +kernel
theorem dX7_init_102 : decode cX7_init 102 = .ok (.sipush 136, 3) := by decide +kernel
theorem dX7_init_105 : decode cX7_init 105 = .ok (.iload_n 1, 1) := by decide +kernel
theorem dX7_init_106 : decode cX7_init 106 = .ok (.iadd, 1) := by decide +kernel
theorem dX7_init_107 : decode cX7_init 107 = .ok (.iconst (-1), 1) := by decide +kernel
theorem dX7_init_108 : decode cX7_init 108 = .ok (.iastore, 1) := by decide +kernel
theorem dX7_init_109 : decode cX7_init 109 = .ok (.iinc 1 1, 3) := by decide +kernel
theorem dX7_init_112 : decode cX7_init 112 = .ok (.goto (-20), 3) := by decide +kernel
theorem dX7_init_115 : decode cX7_init 115 = .ok (.return_, 1) := by decide +kernel
theorem dX7_thrown_0 : decode cX7_thrown 0 = .ok (.aload_n 0, 1) := by decide +kernel
theorem dX7_thrown_1 : decode cX7_thrown 1 = .ok (.getfield 38, 3) := by decide +kernel
theorem dX7_thrown_4 : decode cX7_thrown 4 = .ok (.ireturn, 1) := by decide +kernel
theorem dX7_in_0 : decode cX7_in 0 = .ok (.iload_n 0, 1) := by decide +kernel
theorem dX7_in_1 : decode cX7_in 1 = .ok (.iload_n 1, 1) := by decide +kernel
theorem dX7_in_2 : decode cX7_in 2 = .ok (.if_icmp .lt 12, 3) := by decide +kernel
theorem dX7_in_5 : decode cX7_in 5 = .ok (.iload_n 0, 1) := by decide +kernel
theorem dX7_in_6 : decode cX7_in 6 = .ok (.iload_n 2, 1) := by decide +kernel
theorem dX7_in_7 : decode cX7_in 7 = .ok (.if_icmp .gt 7, 3) := by decide +kernel
theorem dX7_in_10 : decode cX7_in 10 = .ok (.iconst 1, 1) := by decide +kernel
theorem dX7_in_11 : decode cX7_in 11 = .ok (.goto 4, 3) := by decide +kernel
theorem dX7_in_14 : decode cX7_in 14 = .ok (.iconst 0, 1) := by decide +kernel
theorem dX7_in_15 : decode cX7_in 15 = .ok (.ireturn, 1) := by decide +kernel
theorem dX7_holds_0 : decode cX7_holds 0 = .ok (.aload_n 0, 1) := by decide +kernel
theorem dX7_holds_1 : decode cX7_holds 1 = .ok (.iload_n 1, 1) := by decide +kernel
theorem dX7_holds_2 : decode cX7_holds 2 = .ok (.putfield 38, 3) := by decide +kernel
theorem dX7_holds_5 : decode cX7_holds 5 = .ok (.iload_n 1, 1) := by decide +kernel
theorem dX7_holds_6 : decode cX7_holds 6 = .ok (.ifCond .ne 7, 3) := by decide +kernel
theorem dX7_holds_9 : decode cX7_holds 9 = .ok (.iconst 1, 1) := by decide +kernel
theorem dX7_holds_10 : decode cX7_holds 10 = .ok (.goto 4, 3) := by decide +kernel
theorem dX7_holds_13 : decode cX7_holds 13 = .ok (.iconst 0, 1) := by decide +kernel
theorem dX7_holds_14 : decode cX7_holds 14 = .ok (.ireturn, 1) := by decide +kernel
theorem lg_wsX7_isTuft_0 : GoodIn wsX7_isTuft ([.methodLink RX7 42 yX7_in, .static yX7_in, .initialized RX7, .code yX7_in cX7_in 3 (some .boolean)] : List Cond) := goodIn_sub (fun _ h => (List.mem_cons_of_mem _ h)) (by decide +kernel)
set_option maxRecDepth 20000 in
theorem ggX7_isTuft_X7_in : GoodIn wsX7_isTuft wsX7_in := (gi_cons (lg_wsX7_isTuft_0 _ (List.mem_of_getElem? (i := 3) rfl)) gi_nil)
set_option maxRecDepth 20000 in
theorem gX7_isTuft_X7_in : GoodIn wsX7_isTuft (va_wsS RX7 42 yX7_in wsX7_in) := goodIn_app (gi_cons (lg_wsX7_isTuft_0 _ (List.mem_of_getElem? (i := 0) rfl)) (gi_cons (lg_wsX7_isTuft_0 _ (List.mem_of_getElem? (i := 1) rfl)) (gi_cons (lg_wsX7_isTuft_0 _ (List.mem_of_getElem? (i := 2) rfl)) gi_nil))) ggX7_isTuft_X7_in
theorem dX7_isTuft_0 : decode cX7_isTuft 0 = .ok (.iload_n 0, 1) := by decide +kernel
theorem dX7_isTuft_1 : decode cX7_isTuft 1 = .ok (.iconst 0, 1) := by decide +kernel
theorem dX7_isTuft_2 : decode cX7_isTuft 2 = .ok (.bipush 63, 2) := by decide +kernel
theorem dX7_isTuft_4 : decode cX7_isTuft 4 = .ok (.invokestatic 42, 3) := by decide +kernel
theorem dX7_isTuft_7 : decode cX7_isTuft 7 = .ok (.ireturn, 1) := by decide +kernel
theorem lg_wsX7_isMole_0 : GoodIn wsX7_isMole ([.fieldLink RX7 7 "MolesLawnModel" "s" "[I", .methodLink RX7 42 yX7_in, .static yX7_in, .initialized RX7, .code yX7_in cX7_in 3 (some .boolean)] : List Cond) := goodIn_sub (fun _ h => (List.mem_cons_of_mem _ (List.mem_append_left _ h))) (by decide +kernel)
theorem ls_wsX7_isMole_0 : GoodIn wsX7_isMole wsX70 := goodIn_sub (fun _ h => (List.mem_cons_of_mem _ (List.mem_append_right _ h))) (by decide +kernel)
set_option maxRecDepth 20000 in
theorem ggX7_isMole_X7_in : GoodIn wsX7_isMole wsX7_in := (gi_cons (lg_wsX7_isMole_0 _ (List.mem_of_getElem? (i := 4) rfl)) gi_nil)
set_option maxRecDepth 20000 in
theorem gX7_isMole_X7_in : GoodIn wsX7_isMole (va_wsS RX7 42 yX7_in wsX7_in) := goodIn_app (gi_cons (lg_wsX7_isMole_0 _ (List.mem_of_getElem? (i := 1) rfl)) (gi_cons (lg_wsX7_isMole_0 _ (List.mem_of_getElem? (i := 2) rfl)) (gi_cons (lg_wsX7_isMole_0 _ (List.mem_of_getElem? (i := 3) rfl)) gi_nil))) ggX7_isMole_X7_in
theorem dX7_isMole_0 : decode cX7_isMole 0 = .ok (.iload_n 1, 1) := by decide +kernel
theorem dX7_isMole_1 : decode cX7_isMole 1 = .ok (.iconst 0, 1) := by decide +kernel
theorem dX7_isMole_2 : decode cX7_isMole 2 = .ok (.aload_n 0, 1) := by decide +kernel
theorem dX7_isMole_3 : decode cX7_isMole 3 = .ok (.getfield 7, 3) := by decide +kernel
theorem dX7_isMole_6 : decode cX7_isMole 6 = .ok (.iconst 1, 1) := by decide +kernel
theorem dX7_isMole_7 : decode cX7_isMole 7 = .ok (.iaload, 1) := by decide +kernel
theorem dX7_isMole_8 : decode cX7_isMole 8 = .ok (.iconst 1, 1) := by decide +kernel
theorem dX7_isMole_9 : decode cX7_isMole 9 = .ok (.isub, 1) := by decide +kernel
theorem dX7_isMole_10 : decode cX7_isMole 10 = .ok (.invokestatic 42, 3) := by decide +kernel
theorem dX7_isMole_13 : decode cX7_isMole 13 = .ok (.ireturn, 1) := by decide +kernel
theorem dX7_of_0 : decode cX7_of 0 = .ok (.sipush 264, 3) := by decide +kernel
theorem dX7_of_3 : decode cX7_of 3 = .ok (.bipush 46, 2) := by decide +kernel
theorem dX7_of_5 : decode cX7_of 5 = .ok (.iload_n 0, 1) := by decide +kernel
theorem dX7_of_6 : decode cX7_of 6 = .ok (.imul, 1) := by decide +kernel
theorem dX7_of_7 : decode cX7_of 7 = .ok (.iadd, 1) := by decide +kernel
theorem dX7_of_8 : decode cX7_of 8 = .ok (.iload_n 1, 1) := by decide +kernel
theorem dX7_of_9 : decode cX7_of 9 = .ok (.iadd, 1) := by decide +kernel
theorem dX7_of_10 : decode cX7_of 10 = .ok (.ireturn, 1) := by decide +kernel
theorem dX7_hasMound_0 : decode cX7_hasMound 0 = .ok (.aload_n 0, 1) := by decide +kernel
theorem dX7_hasMound_1 : decode cX7_hasMound 1 = .ok (.getfield 7, 3) := by decide +kernel
theorem dX7_hasMound_4 : decode cX7_hasMound 4 = .ok (.bipush 8, 2) := by decide +kernel
theorem dX7_hasMound_6 : decode cX7_hasMound 6 = .ok (.iload_n 1, 1) := by decide +kernel
theorem dX7_hasMound_7 : decode cX7_hasMound 7 = .ok (.iadd, 1) := by decide +kernel
theorem dX7_hasMound_8 : decode cX7_hasMound 8 = .ok (.iaload, 1) := by decide +kernel
theorem dX7_hasMound_9 : decode cX7_hasMound 9 = .ok (.iconst 1, 1) := by decide +kernel
theorem dX7_hasMound_10 : decode cX7_hasMound 10 = .ok (.if_icmp .ne 7, 3) := by decide +kernel
theorem dX7_hasMound_13 : decode cX7_hasMound 13 = .ok (.iconst 1, 1) := by decide +kernel
theorem dX7_hasMound_14 : decode cX7_hasMound 14 = .ok (.goto 4, 3) := by decide +kernel
theorem dX7_hasMound_17 : decode cX7_hasMound 17 = .ok (.iconst 0, 1) := by decide +kernel
theorem dX7_hasMound_18 : decode cX7_hasMound 18 = .ok (.ireturn, 1) := by decide +kernel
theorem dX7_save_0 : decode cX7_save 0 = .ok (.aload_n 0, 1) := by decide +kernel
theorem dX7_save_1 : decode cX7_save 1 = .ok (.getfield 46, 3) := by decide +kernel
theorem dX7_save_4 : decode cX7_save 4 = .ok (.bipush 6, 2) := by decide +kernel
theorem dX7_save_6 : decode cX7_save 6 = .ok (.if_icmp .ne 44, 3) := by decide +kernel
theorem dX7_save_9 : decode cX7_save 9 = .ok (.iconst 0, 1) := by decide +kernel
theorem dX7_save_10 : decode cX7_save 10 = .ok (.istore_n 1, 1) := by decide +kernel
theorem dX7_save_11 : decode cX7_save 11 = .ok (.iload_n 1, 1) := by decide +kernel
theorem dX7_save_12 : decode cX7_save 12 = .ok (.sipush 7360, 3) := by decide +kernel
theorem dX7_save_15 : decode cX7_save 15 = .ok (.if_icmp .ge 25, 3) := by decide +kernel
theorem dX7_save_18 : decode cX7_save 18 = .ok (.aload_n 0, 1) := by decide +kernel
theorem dX7_save_19 : decode cX7_save 19 = .ok (.getfield 19, 3) := by decide +kernel
theorem dX7_save_22 : decode cX7_save 22 = .ok (.iload_n 1, 1) := by decide +kernel
theorem dX7_save_23 : decode cX7_save 23 = .ok (.aload_n 0, 1) := by decide +kernel
theorem dX7_save_24 : decode cX7_save 24 = .ok (.getfield 19, 3) := by decide +kernel
theorem dX7_save_27 : decode cX7_save 27 = .ok (.sipush 1472, 3) := by decide +kernel
theorem dX7_save_30 : decode cX7_save 30 = .ok (.iload_n 1, 1) := by decide +kernel
theorem dX7_save_31 : decode cX7_save 31 = .ok (.iadd, 1) := by decide +kernel
theorem dX7_save_32 : decode cX7_save 32 = .ok (.iaload, 1) := by decide +kernel
theorem dX7_save_33 : decode cX7_save 33 = .ok (.iastore, 1) := by decide +kernel
theorem dX7_save_34 : decode cX7_save 34 = .ok (.iinc 1 1, 3) := by decide +kernel
theorem dX7_save_37 : decode cX7_save 37 = .ok (.goto (-26), 3) := by decide +kernel
theorem dX7_save_40 : decode cX7_save 40 = .ok (.aload_n 0, 1) := by decide +kernel
theorem dX7_save_41 : decode cX7_save 41 = .ok (.dup, 1) := by decide +kernel
theorem dX7_save_42 : decode cX7_save 42 = .ok (.getfield 46, 3) := by decide +kernel
theorem dX7_save_45 : decode cX7_save 45 = .ok (.iconst 1, 1) := by decide +kernel
theorem dX7_save_46 : decode cX7_save 46 = .ok (.isub, 1) := by decide +kernel
theorem dX7_save_47 : decode cX7_save 47 = .ok (.putfield 46, 3) := by decide +kernel
theorem dX7_save_50 : decode cX7_save 50 = .ok (.iconst 0, 1) := by decide +kernel
theorem dX7_save_51 : decode cX7_save 51 = .ok (.istore_n 1, 1) := by decide +kernel
theorem dX7_save_52 : decode cX7_save 52 = .ok (.iload_n 1, 1) := by decide +kernel
theorem dX7_save_53 : decode cX7_save 53 = .ok (.sipush 1472, 3) := by decide +kernel
theorem dX7_save_56 : decode cX7_save 56 = .ok (.if_icmp .ge 30, 3) := by decide +kernel
theorem dX7_save_59 : decode cX7_save 59 = .ok (.aload_n 0, 1) := by decide +kernel
theorem dX7_save_60 : decode cX7_save 60 = .ok (.getfield 19, 3) := by decide +kernel
theorem dX7_save_63 : decode cX7_save 63 = .ok (.sipush 1472, 3) := by decide +kernel
theorem dX7_save_66 : decode cX7_save 66 = .ok (.aload_n 0, 1) := by decide +kernel
theorem dX7_save_67 : decode cX7_save 67 = .ok (.getfield 46, 3) := by decide +kernel
theorem dX7_save_70 : decode cX7_save 70 = .ok (.imul, 1) := by decide +kernel
theorem dX7_save_71 : decode cX7_save 71 = .ok (.iload_n 1, 1) := by decide +kernel
theorem dX7_save_72 : decode cX7_save 72 = .ok (.iadd, 1) := by decide +kernel
theorem dX7_save_73 : decode cX7_save 73 = .ok (.aload_n 0, 1) := by decide +kernel
theorem dX7_save_74 : decode cX7_save 74 = .ok (.getfield 7, 3) := by decide +kernel
theorem dX7_save_77 : decode cX7_save 77 = .ok (.iload_n 1, 1) := by decide +kernel
theorem dX7_save_78 : decode cX7_save 78 = .ok (.iaload, 1) := by decide +kernel
theorem dX7_save_79 : decode cX7_save 79 = .ok (.iastore, 1) := by decide +kernel
theorem dX7_save_80 : decode cX7_save 80 = .ok (.iinc 1 1, 3) := by decide +kernel
theorem dX7_save_83 : decode cX7_save 83 = .ok (.goto (-31), 3) := by decide +kernel
theorem dX7_save_86 : decode cX7_save 86 = .ok (.aload_n 0, 1) := by decide +kernel
theorem dX7_save_87 : decode cX7_save 87 = .ok (.dup, 1) := by decide +kernel
theorem dX7_save_88 : decode cX7_save 88 = .ok (.getfield 46, 3) := by decide +kernel
theorem dX7_save_91 : decode cX7_save 91 = .ok (.iconst 1, 1) := by decide +kernel
theorem dX7_save_92 : decode cX7_save 92 = .ok (.iadd, 1) := by decide +kernel
theorem dX7_save_93 : decode cX7_save 93 = .ok (.putfield 46, 3) := by decide +kernel
theorem dX7_save_96 : decode cX7_save 96 = .ok (.return_, 1) := by decide +kernel
theorem dX7_putAside_0 : decode cX7_putAside 0 = .ok (.iconst 0, 1) := by decide +kernel
theorem dX7_putAside_1 : decode cX7_putAside 1 = .ok (.istore_n 1, 1) := by decide +kernel
theorem dX7_putAside_2 : decode cX7_putAside 2 = .ok (.iload_n 1, 1) := by decide +kernel
theorem dX7_putAside_3 : decode cX7_putAside 3 = .ok (.sipush 1472, 3) := by decide +kernel
theorem dX7_putAside_6 : decode cX7_putAside 6 = .ok (.if_icmp .ge 21, 3) := by decide +kernel
theorem dX7_putAside_9 : decode cX7_putAside 9 = .ok (.aload_n 0, 1) := by decide +kernel
theorem dX7_putAside_10 : decode cX7_putAside 10 = .ok (.getfield 13, 3) := by decide +kernel
theorem dX7_putAside_13 : decode cX7_putAside 13 = .ok (.iload_n 1, 1) := by decide +kernel
theorem dX7_putAside_14 : decode cX7_putAside 14 = .ok (.aload_n 0, 1) := by decide +kernel
theorem dX7_putAside_15 : decode cX7_putAside 15 = .ok (.getfield 7, 3) := by decide +kernel
theorem dX7_putAside_18 : decode cX7_putAside 18 = .ok (.iload_n 1, 1) := by decide +kernel
theorem dX7_putAside_19 : decode cX7_putAside 19 = .ok (.iaload, 1) := by decide +kernel
theorem dX7_putAside_20 : decode cX7_putAside 20 = .ok (.iastore, 1) := by decide +kernel
theorem dX7_putAside_21 : decode cX7_putAside 21 = .ok (.iinc 1 1, 3) := by decide +kernel
theorem dX7_putAside_24 : decode cX7_putAside 24 = .ok (.goto (-22), 3) := by decide +kernel
theorem dX7_putAside_27 : decode cX7_putAside 27 = .ok (.return_, 1) := by decide +kernel
theorem dX7_putBack_0 : decode cX7_putBack 0 = .ok (.iconst 0, 1) := by decide +kernel
theorem dX7_putBack_1 : decode cX7_putBack 1 = .ok (.istore_n 1, 1) := by decide +kernel
theorem dX7_putBack_2 : decode cX7_putBack 2 = .ok (.iload_n 1, 1) := by decide +kernel
theorem dX7_putBack_3 : decode cX7_putBack 3 = .ok (.sipush 1472, 3) := by decide +kernel
theorem dX7_putBack_6 : decode cX7_putBack 6 = .ok (.if_icmp .ge 21, 3) := by decide +kernel
theorem dX7_putBack_9 : decode cX7_putBack 9 = .ok (.aload_n 0, 1) := by decide +kernel
theorem dX7_putBack_10 : decode cX7_putBack 10 = .ok (.getfield 7, 3) := by decide +kernel
theorem dX7_putBack_13 : decode cX7_putBack 13 = .ok (.iload_n 1, 1) := by decide +kernel
theorem dX7_putBack_14 : decode cX7_putBack 14 = .ok (.aload_n 0, 1) := by decide +kernel
theorem dX7_putBack_15 : decode cX7_putBack 15 = .ok (.getfield 13, 3) := by decide +kernel
theorem dX7_putBack_18 : decode cX7_putBack 18 = .ok (.iload_n 1, 1) := by decide +kernel
theorem dX7_putBack_19 : decode cX7_putBack 19 = .ok (.iaload, 1) := by decide +kernel
theorem dX7_putBack_20 : decode cX7_putBack 20 = .ok (.iastore, 1) := by decide +kernel
theorem dX7_putBack_21 : decode cX7_putBack 21 = .ok (.iinc 1 1, 3) := by decide +kernel
theorem dX7_putBack_24 : decode cX7_putBack 24 = .ok (.goto (-22), 3) := by decide +kernel
theorem dX7_putBack_27 : decode cX7_putBack 27 = .ok (.return_, 1) := by decide +kernel
theorem dX7_tuftAt_0 : decode cX7_tuftAt 0 = .ok (.aload_n 0, 1) := by decide +kernel
theorem dX7_tuftAt_1 : decode cX7_tuftAt 1 = .ok (.getfield 7, 3) := by decide +kernel
theorem dX7_tuftAt_4 : decode cX7_tuftAt 4 = .ok (.sipush 448, 3) := by decide +kernel
theorem dX7_tuftAt_7 : decode cX7_tuftAt 7 = .ok (.iload_n 1, 1) := by decide +kernel
theorem dX7_tuftAt_8 : decode cX7_tuftAt 8 = .ok (.iadd, 1) := by decide +kernel
theorem dX7_tuftAt_9 : decode cX7_tuftAt 9 = .ok (.iaload, 1) := by decide +kernel
theorem dX7_tuftAt_10 : decode cX7_tuftAt 10 = .ok (.bipush 64, 2) := by decide +kernel
theorem dX7_tuftAt_12 : decode cX7_tuftAt 12 = .ok (.irem, 1) := by decide +kernel
theorem dX7_tuftAt_13 : decode cX7_tuftAt 13 = .ok (.ireturn, 1) := by decide +kernel
theorem dX7_endFrom_0 : decode cX7_endFrom 0 = .ok (.iload_n 1, 1) := by decide +kernel
theorem dX7_endFrom_1 : decode cX7_endFrom 1 = .ok (.istore_n 2, 1) := by decide +kernel
theorem dX7_endFrom_2 : decode cX7_endFrom 2 = .ok (.aload_n 0, 1) := by decide +kernel
theorem dX7_endFrom_3 : decode cX7_endFrom 3 = .ok (.getfield 7, 3) := by decide +kernel
theorem dX7_endFrom_6 : decode cX7_endFrom 6 = .ok (.sipush 448, 3) := by decide +kernel
theorem dX7_endFrom_9 : decode cX7_endFrom 9 = .ok (.iload_n 2, 1) := by decide +kernel
theorem dX7_endFrom_10 : decode cX7_endFrom 10 = .ok (.iadd, 1) := by decide +kernel
theorem dX7_endFrom_11 : decode cX7_endFrom 11 = .ok (.iaload, 1) := by decide +kernel
theorem dX7_endFrom_12 : decode cX7_endFrom 12 = .ok (.bipush 64, 2) := by decide +kernel
theorem dX7_endFrom_14 : decode cX7_endFrom 14 = .ok (.if_icmp .ge 9, 3) := by decide +kernel
theorem dX7_endFrom_17 : decode cX7_endFrom 17 = .ok (.iinc 2 1, 3) := by decide +kernel
theorem dX7_endFrom_20 : decode cX7_endFrom 20 = .ok (.goto (-18), 3) := by decide +kernel
theorem dX7_endFrom_23 : decode cX7_endFrom 23 = .ok (.iload_n 2, 1) := by decide +kernel
theorem dX7_endFrom_24 : decode cX7_endFrom 24 = .ok (.ireturn, 1) := by decide +kernel
theorem dX7_tunnels_0 : decode cX7_tunnels 0 = .ok (.iconst 0, 1) := by decide +kernel
theorem dX7_tunnels_1 : decode cX7_tunnels 1 = .ok (.istore_n 1, 1) := by decide +kernel
theorem dX7_tunnels_2 : decode cX7_tunnels 2 = .ok (.iconst 0, 1) := by decide +kernel
theorem dX7_tunnels_3 : decode cX7_tunnels 3 = .ok (.istore_n 2, 1) := by decide +kernel
theorem dX7_tunnels_4 : decode cX7_tunnels 4 = .ok (.iload_n 2, 1) := by decide +kernel
theorem dX7_tunnels_5 : decode cX7_tunnels 5 = .ok (.aload_n 0, 1) := by decide +kernel
theorem dX7_tunnels_6 : decode cX7_tunnels 6 = .ok (.getfield 7, 3) := by decide +kernel
theorem dX7_tunnels_9 : decode cX7_tunnels 9 = .ok (.bipush 7, 2) := by decide +kernel
theorem dX7_tunnels_11 : decode cX7_tunnels 11 = .ok (.iaload, 1) := by decide +kernel
theorem dX7_tunnels_12 : decode cX7_tunnels 12 = .ok (.if_icmp .ge 32, 3) := by decide +kernel
theorem dX7_tunnels_15 : decode cX7_tunnels 15 = .ok (.iload_n 1, 1) := by decide +kernel
theorem dX7_tunnels_16 : decode cX7_tunnels 16 = .ok (.aload_n 0, 1) := by decide +kernel
theorem dX7_tunnels_17 : decode cX7_tunnels 17 = .ok (.getfield 7, 3) := by decide +kernel
theorem dX7_tunnels_20 : decode cX7_tunnels 20 = .ok (.sipush 448, 3) := by decide +kernel
theorem dX7_tunnels_23 : decode cX7_tunnels 23 = .ok (.iload_n 2, 1) := by decide +kernel
theorem dX7_tunnels_24 : decode cX7_tunnels 24 = .ok (.iadd, 1) := by decide +kernel
theorem dX7_tunnels_25 : decode cX7_tunnels 25 = .ok (.iaload, 1) := by decide +kernel
theorem dX7_tunnels_26 : decode cX7_tunnels 26 = .ok (.bipush 64, 2) := by decide +kernel
theorem dX7_tunnels_28 : decode cX7_tunnels 28 = .ok (.if_icmp .ge 7, 3) := by decide +kernel
theorem dX7_tunnels_31 : decode cX7_tunnels 31 = .ok (.iconst 0, 1) := by decide +kernel
theorem dX7_tunnels_32 : decode cX7_tunnels 32 = .ok (.goto 4, 3) := by decide +kernel
theorem dX7_tunnels_35 : decode cX7_tunnels 35 = .ok (.iconst 1, 1) := by decide +kernel
theorem dX7_tunnels_36 : decode cX7_tunnels 36 = .ok (.iadd, 1) := by decide +kernel
theorem dX7_tunnels_37 : decode cX7_tunnels 37 = .ok (.istore_n 1, 1) := by decide +kernel
theorem dX7_tunnels_38 : decode cX7_tunnels 38 = .ok (.iinc 2 1, 3) := by decide +kernel
theorem dX7_tunnels_41 : decode cX7_tunnels 41 = .ok (.goto (-37), 3) := by decide +kernel
theorem dX7_tunnels_44 : decode cX7_tunnels 44 = .ok (.iload_n 1, 1) := by decide +kernel
theorem dX7_tunnels_45 : decode cX7_tunnels 45 = .ok (.ireturn, 1) := by decide +kernel
theorem lg_wsX7_beginOf_0 : GoodIn wsX7_beginOf ([.methodLink RX7 49 yX7_endFrom, .instanceMethod yX7_endFrom, .selects RX7 yX7_endFrom yX7_endFrom, .initialized RX7, .code yX7_endFrom cX7_endFrom 3 (some .int), .fieldLink RX7 7 "MolesLawnModel" "s" "[I"] : List Cond) := goodIn_sub (fun _ h => (List.mem_cons_of_mem _ (List.mem_append_left _ h))) (by decide +kernel)
theorem ls_wsX7_beginOf_0 : GoodIn wsX7_beginOf wsX70 := goodIn_sub (fun _ h => (List.mem_cons_of_mem _ (List.mem_append_right _ h))) (by decide +kernel)
set_option maxRecDepth 20000 in
theorem ggX7_beginOf_X7_endFrom : GoodIn wsX7_beginOf wsX7_endFrom := (gi_cons (lg_wsX7_beginOf_0 _ (List.mem_of_getElem? (i := 4) rfl)) (goodIn_app (gi_cons (lg_wsX7_beginOf_0 _ (List.mem_of_getElem? (i := 5) rfl)) gi_nil) ls_wsX7_beginOf_0))
set_option maxRecDepth 20000 in
theorem gX7_beginOf_X7_endFrom : GoodIn wsX7_beginOf (wsV RX7 49 RX7 yX7_endFrom wsX7_endFrom) := goodIn_app (gi_cons (lg_wsX7_beginOf_0 _ (List.mem_of_getElem? (i := 0) rfl)) (gi_cons (lg_wsX7_beginOf_0 _ (List.mem_of_getElem? (i := 1) rfl)) (gi_cons (lg_wsX7_beginOf_0 _ (List.mem_of_getElem? (i := 2) rfl)) (gi_cons (lg_wsX7_beginOf_0 _ (List.mem_of_getElem? (i := 3) rfl)) gi_nil)))) ggX7_beginOf_X7_endFrom
theorem dX7_beginOf_0 : decode cX7_beginOf 0 = .ok (.iconst 0, 1) := by decide +kernel
theorem dX7_beginOf_1 : decode cX7_beginOf 1 = .ok (.istore_n 2, 1) := by decide +kernel
theorem dX7_beginOf_2 : decode cX7_beginOf 2 = .ok (.iconst 0, 1) := by decide +kernel
theorem dX7_beginOf_3 : decode cX7_beginOf 3 = .ok (.istore_n 3, 1) := by decide +kernel
theorem dX7_beginOf_4 : decode cX7_beginOf 4 = .ok (.iload_n 3, 1) := by decide +kernel
theorem dX7_beginOf_5 : decode cX7_beginOf 5 = .ok (.iload_n 1, 1) := by decide +kernel
theorem dX7_beginOf_6 : decode cX7_beginOf 6 = .ok (.if_icmp .ge 17, 3) := by decide +kernel
theorem dX7_beginOf_9 : decode cX7_beginOf 9 = .ok (.aload_n 0, 1) := by decide +kernel
theorem dX7_beginOf_10 : decode cX7_beginOf 10 = .ok (.iload_n 2, 1) := by decide +kernel
theorem dX7_beginOf_11 : decode cX7_beginOf 11 = .ok (.invokevirtual 49, 3) := by decide +kernel
theorem dX7_beginOf_14 : decode cX7_beginOf 14 = .ok (.iconst 1, 1) := by decide +kernel
theorem dX7_beginOf_15 : decode cX7_beginOf 15 = .ok (.iadd, 1) := by decide +kernel
theorem dX7_beginOf_16 : decode cX7_beginOf 16 = .ok (.istore_n 2, 1) := by decide +kernel
theorem dX7_beginOf_17 : decode cX7_beginOf 17 = .ok (.iinc 3 1, 3) := by decide +kernel
theorem dX7_beginOf_20 : decode cX7_beginOf 20 = .ok (.goto (-16), 3) := by decide +kernel
theorem dX7_beginOf_23 : decode cX7_beginOf 23 = .ok (.iload_n 2, 1) := by decide +kernel
theorem dX7_beginOf_24 : decode cX7_beginOf 24 = .ok (.ireturn, 1) := by decide +kernel
theorem dX7_shifts_0 : decode cX7_shifts 0 = .ok (.aload_n 0, 1) := by decide +kernel
theorem dX7_shifts_1 : decode cX7_shifts 1 = .ok (.getfield 7, 3) := by decide +kernel
theorem dX7_shifts_4 : decode cX7_shifts 4 = .ok (.bipush 7, 2) := by decide +kernel
theorem dX7_shifts_6 : decode cX7_shifts 6 = .ok (.iaload, 1) := by decide +kernel
theorem dX7_shifts_7 : decode cX7_shifts 7 = .ok (.iconst 1, 1) := by decide +kernel
theorem dX7_shifts_8 : decode cX7_shifts 8 = .ok (.isub, 1) := by decide +kernel
theorem dX7_shifts_9 : decode cX7_shifts 9 = .ok (.istore_n 3, 1) := by decide +kernel
theorem dX7_shifts_10 : decode cX7_shifts 10 = .ok (.iload_n 3, 1) := by decide +kernel
theorem dX7_shifts_11 : decode cX7_shifts 11 = .ok (.iload_n 1, 1) := by decide +kernel
theorem dX7_shifts_12 : decode cX7_shifts 12 = .ok (.if_icmp .lt 35, 3) := by decide +kernel
theorem dX7_shifts_15 : decode cX7_shifts 15 = .ok (.iload_n 2, 1) := by decide +kernel
theorem dX7_shifts_16 : decode cX7_shifts 16 = .ok (.ifCond .le 31, 3) := by decide +kernel
theorem dX7_shifts_19 : decode cX7_shifts 19 = .ok (.aload_n 0, 1) := by decide +kernel
theorem dX7_shifts_20 : decode cX7_shifts 20 = .ok (.getfield 7, 3) := by decide +kernel
theorem dX7_shifts_23 : decode cX7_shifts 23 = .ok (.sipush 448, 3) := by decide +kernel
theorem dX7_shifts_26 : decode cX7_shifts 26 = .ok (.iload_n 3, 1) := by decide +kernel
theorem dX7_shifts_27 : decode cX7_shifts 27 = .ok (.iadd, 1) := by decide +kernel
theorem dX7_shifts_28 : decode cX7_shifts 28 = .ok (.iload_n 2, 1) := by decide +kernel
theorem dX7_shifts_29 : decode cX7_shifts 29 = .ok (.iadd, 1) := by decide +kernel
theorem dX7_shifts_30 : decode cX7_shifts 30 = .ok (.aload_n 0, 1) := by decide +kernel
theorem dX7_shifts_31 : decode cX7_shifts 31 = .ok (.getfield 7, 3) := by decide +kernel
theorem dX7_shifts_34 : decode cX7_shifts 34 = .ok (.sipush 448, 3) := by decide +kernel
theorem dX7_shifts_37 : decode cX7_shifts 37 = .ok (.iload_n 3, 1) := by decide +kernel
theorem dX7_shifts_38 : decode cX7_shifts 38 = .ok (.iadd, 1) := by decide +kernel
theorem dX7_shifts_39 : decode cX7_shifts 39 = .ok (.iaload, 1) := by decide +kernel
theorem dX7_shifts_40 : decode cX7_shifts 40 = .ok (.iastore, 1) := by decide +kernel
theorem dX7_shifts_41 : decode cX7_shifts 41 = .ok (.iinc 3 (-1), 3) := by decide +kernel
theorem dX7_shifts_44 : decode cX7_shifts 44 = .ok (.goto (-34), 3) := by decide +kernel
theorem dX7_shifts_47 : decode cX7_shifts 47 = .ok (.iload_n 1, 1) := by decide +kernel
theorem dX7_shifts_48 : decode cX7_shifts 48 = .ok (.istore_n 3, 1) := by decide +kernel
theorem dX7_shifts_49 : decode cX7_shifts 49 = .ok (.iload_n 3, 1) := by decide +kernel
theorem dX7_shifts_50 : decode cX7_shifts 50 = .ok (.aload_n 0, 1) := by decide +kernel
theorem dX7_shifts_51 : decode cX7_shifts 51 = .ok (.getfield 7, 3) := by decide +kernel
theorem dX7_shifts_54 : decode cX7_shifts 54 = .ok (.bipush 7, 2) := by decide +kernel
theorem dX7_shifts_56 : decode cX7_shifts 56 = .ok (.iaload, 1) := by decide +kernel
theorem dX7_shifts_57 : decode cX7_shifts 57 = .ok (.if_icmp .ge 35, 3) := by decide +kernel
theorem dX7_shifts_60 : decode cX7_shifts 60 = .ok (.iload_n 2, 1) := by decide +kernel
theorem dX7_shifts_61 : decode cX7_shifts 61 = .ok (.ifCond .ge 31, 3) := by decide +kernel
theorem dX7_shifts_64 : decode cX7_shifts 64 = .ok (.aload_n 0, 1) := by decide +kernel
theorem dX7_shifts_65 : decode cX7_shifts 65 = .ok (.getfield 7, 3) := by decide +kernel
theorem dX7_shifts_68 : decode cX7_shifts 68 = .ok (.sipush 448, 3) := by decide +kernel
theorem dX7_shifts_71 : decode cX7_shifts 71 = .ok (.iload_n 3, 1) := by decide +kernel
theorem dX7_shifts_72 : decode cX7_shifts 72 = .ok (.iadd, 1) := by decide +kernel
theorem dX7_shifts_73 : decode cX7_shifts 73 = .ok (.iload_n 2, 1) := by decide +kernel
theorem dX7_shifts_74 : decode cX7_shifts 74 = .ok (.iadd, 1) := by decide +kernel
theorem dX7_shifts_75 : decode cX7_shifts 75 = .ok (.aload_n 0, 1) := by decide +kernel
theorem dX7_shifts_76 : decode cX7_shifts 76 = .ok (.getfield 7, 3) := by decide +kernel
theorem dX7_shifts_79 : decode cX7_shifts 79 = .ok (.sipush 448, 3) := by decide +kernel
theorem dX7_shifts_82 : decode cX7_shifts 82 = .ok (.iload_n 3, 1) := by decide +kernel
theorem dX7_shifts_83 : decode cX7_shifts 83 = .ok (.iadd, 1) := by decide +kernel
theorem dX7_shifts_84 : decode cX7_shifts 84 = .ok (.iaload, 1) := by decide +kernel
theorem dX7_shifts_85 : decode cX7_shifts 85 = .ok (.iastore, 1) := by decide +kernel
theorem dX7_shifts_86 : decode cX7_shifts 86 = .ok (.iinc 3 1, 3) := by decide +kernel
theorem dX7_shifts_89 : decode cX7_shifts 89 = .ok (.goto (-40), 3) := by decide +kernel
theorem dX7_shifts_92 : decode cX7_shifts 92 = .ok (.aload_n 0, 1) := by decide +kernel
theorem dX7_shifts_93 : decode cX7_shifts 93 = .ok (.getfield 7, 3) := by decide +kernel
theorem dX7_shifts_96 : decode cX7_shifts 96 = .ok (.bipush 7, 2) := by decide +kernel
theorem dX7_shifts_98 : decode cX7_shifts 98 = .ok (.dup2, 1) := by decide +kernel
theorem dX7_shifts_99 : decode cX7_shifts 99 = .ok (.iaload, 1) := by decide +kernel
theorem dX7_shifts_100 : decode cX7_shifts 100 = .ok (.iload_n 2, 1) := by decide +kernel
theorem dX7_shifts_101 : decode cX7_shifts 101 = .ok (.iadd, 1) := by decide +kernel
theorem dX7_shifts_102 : decode cX7_shifts 102 = .ok (.iastore, 1) := by decide +kernel
theorem dX7_shifts_103 : decode cX7_shifts 103 = .ok (.aload_n 0, 1) := by decide +kernel
theorem dX7_shifts_104 : decode cX7_shifts 104 = .ok (.getfield 7, 3) := by decide +kernel
theorem dX7_shifts_107 : decode cX7_shifts 107 = .ok (.bipush 7, 2) := by decide +kernel
theorem dX7_shifts_109 : decode cX7_shifts 109 = .ok (.iaload, 1) := by decide +kernel
theorem dX7_shifts_110 : decode cX7_shifts 110 = .ok (.istore_n 3, 1) := by decide +kernel
theorem dX7_shifts_111 : decode cX7_shifts 111 = .ok (.iload_n 3, 1) := by decide +kernel
theorem dX7_shifts_112 : decode cX7_shifts 112 = .ok (.aload_n 0, 1) := by decide +kernel
theorem dX7_shifts_113 : decode cX7_shifts 113 = .ok (.getfield 7, 3) := by decide +kernel
theorem dX7_shifts_116 : decode cX7_shifts 116 = .ok (.bipush 7, 2) := by decide +kernel
theorem dX7_shifts_118 : decode cX7_shifts 118 = .ok (.iaload, 1) := by decide +kernel
theorem dX7_shifts_119 : decode cX7_shifts 119 = .ok (.iload_n 2, 1) := by decide +kernel
theorem dX7_shifts_120 : decode cX7_shifts 120 = .ok (.isub, 1) := by decide +kernel
theorem dX7_shifts_121 : decode cX7_shifts 121 = .ok (.if_icmp .ge 20, 3) := by decide +kernel
theorem dX7_shifts_124 : decode cX7_shifts 124 = .ok (.aload_n 0, 1) := by decide +kernel
theorem dX7_shifts_125 : decode cX7_shifts 125 = .ok (.getfield 7, 3) := by decide +kernel
theorem dX7_shifts_128 : decode cX7_shifts 128 = .ok (.sipush 448, 3) := by decide +kernel
theorem dX7_shifts_131 : decode cX7_shifts 131 = .ok (.iload_n 3, 1) := by decide +kernel
theorem dX7_shifts_132 : decode cX7_shifts 132 = .ok (.iadd, 1) := by decide +kernel
theorem dX7_shifts_133 : decode cX7_shifts 133 = .ok (.iconst 0, 1) := by decide +kernel
theorem dX7_shifts_134 : decode cX7_shifts 134 = .ok (.iastore, 1) := by decide +kernel
theorem dX7_shifts_135 : decode cX7_shifts 135 = .ok (.iinc 3 1, 3) := by decide +kernel
theorem dX7_shifts_138 : decode cX7_shifts 138 = .ok (.goto (-27), 3) := by decide +kernel
theorem dX7_shifts_141 : decode cX7_shifts 141 = .ok (.return_, 1) := by decide +kernel
theorem lg_wsX7_find_0 : GoodIn wsX7_find ([.methodLink RX7 53 yX7_tuftAt, .instanceMethod yX7_tuftAt, .selects RX7 yX7_tuftAt yX7_tuftAt, .initialized RX7, .code yX7_tuftAt cX7_tuftAt 2 (some .int), .fieldLink RX7 7 "MolesLawnModel" "s" "[I"] : List Cond) := goodIn_sub (fun _ h => (List.mem_cons_of_mem _ (List.mem_append_left _ h))) (by decide +kernel)
theorem ls_wsX7_find_0 : GoodIn wsX7_find wsX70 := goodIn_sub (fun _ h => (List.mem_cons_of_mem _ (List.mem_append_right _ h))) (by decide +kernel)
set_option maxRecDepth 20000 in
theorem ggX7_find_X7_tuftAt : GoodIn wsX7_find wsX7_tuftAt := (gi_cons (lg_wsX7_find_0 _ (List.mem_of_getElem? (i := 4) rfl)) (goodIn_app (gi_cons (lg_wsX7_find_0 _ (List.mem_of_getElem? (i := 5) rfl)) gi_nil) ls_wsX7_find_0))
set_option maxRecDepth 20000 in
theorem gX7_find_X7_tuftAt : GoodIn wsX7_find (wsV RX7 53 RX7 yX7_tuftAt wsX7_tuftAt) := goodIn_app (gi_cons (lg_wsX7_find_0 _ (List.mem_of_getElem? (i := 0) rfl)) (gi_cons (lg_wsX7_find_0 _ (List.mem_of_getElem? (i := 1) rfl)) (gi_cons (lg_wsX7_find_0 _ (List.mem_of_getElem? (i := 2) rfl)) (gi_cons (lg_wsX7_find_0 _ (List.mem_of_getElem? (i := 3) rfl)) gi_nil)))) ggX7_find_X7_tuftAt
theorem dX7_find_0 : decode cX7_find 0 = .ok (.iconst (-1), 1) := by decide +kernel
theorem dX7_find_1 : decode cX7_find 1 = .ok (.istore 5, 2) := by decide +kernel
theorem dX7_find_3 : decode cX7_find 3 = .ok (.iload_n 2, 1) := by decide +kernel
theorem dX7_find_4 : decode cX7_find 4 = .ok (.istore 6, 2) := by decide +kernel
theorem dX7_find_6 : decode cX7_find 6 = .ok (.iload 6, 2) := by decide +kernel
theorem dX7_find_8 : decode cX7_find 8 = .ok (.iload_n 3, 1) := by decide +kernel
theorem dX7_find_9 : decode cX7_find 9 = .ok (.if_icmp .gt 39, 3) := by decide +kernel
theorem dX7_find_12 : decode cX7_find 12 = .ok (.aload_n 0, 1) := by decide +kernel
theorem dX7_find_13 : decode cX7_find 13 = .ok (.iload 6, 2) := by decide +kernel
theorem dX7_find_15 : decode cX7_find 15 = .ok (.invokevirtual 53, 3) := by decide +kernel
theorem dX7_find_18 : decode cX7_find 18 = .ok (.iload_n 1, 1) := by decide +kernel
theorem dX7_find_19 : decode cX7_find 19 = .ok (.if_icmp .ne 19, 3) := by decide +kernel
theorem dX7_find_22 : decode cX7_find 22 = .ok (.iload 4, 2) := by decide +kernel
theorem dX7_find_24 : decode cX7_find 24 = .ok (.ifCond .ne 9, 3) := by decide +kernel
theorem dX7_find_27 : decode cX7_find 27 = .ok (.iload 5, 2) := by decide +kernel
theorem dX7_find_29 : decode cX7_find 29 = .ok (.iconst (-1), 1) := by decide +kernel
theorem dX7_find_30 : decode cX7_find 30 = .ok (.if_icmp .ne 8, 3) := by decide +kernel
theorem dX7_find_33 : decode cX7_find 33 = .ok (.iload 6, 2) := by decide +kernel
theorem dX7_find_35 : decode cX7_find 35 = .ok (.goto 5, 3) := by decide +kernel
theorem dX7_find_38 : decode cX7_find 38 = .ok (.iload 5, 2) := by decide +kernel
theorem dX7_find_40 : decode cX7_find 40 = .ok (.istore 5, 2) := by decide +kernel
theorem dX7_find_42 : decode cX7_find 42 = .ok (.iinc 6 1, 3) := by decide +kernel
theorem dX7_find_45 : decode cX7_find 45 = .ok (.goto (-39), 3) := by decide +kernel
theorem dX7_find_48 : decode cX7_find 48 = .ok (.iload 5, 2) := by decide +kernel
theorem dX7_find_50 : decode cX7_find 50 = .ok (.ireturn, 1) := by decide +kernel
theorem lg_wsX7_splits_0 : GoodIn wsX7_splits ([.fieldLink RX7 7 "MolesLawnModel" "s" "[I", .methodLink RX7 49 yX7_endFrom, .instanceMethod yX7_endFrom, .selects RX7 yX7_endFrom yX7_endFrom, .initialized RX7, .code yX7_endFrom cX7_endFrom 3 (some .int), .methodLink RX7 56 yX7_find, .instanceMethod yX7_find, .selects RX7 yX7_find yX7_find, .code yX7_find cX7_find 7 (some .int), .methodLink RX7 53 yX7_tuftAt, .instanceMethod yX7_tuftAt, .selects RX7 yX7_tuftAt yX7_tuftAt, .code yX7_tuftAt cX7_tuftAt 2 (some .int), .methodLink RX7 60 yX7_shifts, .instanceMethod yX7_shifts, .selects RX7 yX7_shifts yX7_shifts, .code yX7_shifts cX7_shifts 4 none] : List Cond) := goodIn_sub (fun _ h => (List.mem_cons_of_mem _ (List.mem_append_left _ h))) (by decide +kernel)
theorem ls_wsX7_splits_0 : GoodIn wsX7_splits wsX70 := goodIn_sub (fun _ h => (List.mem_cons_of_mem _ (List.mem_append_right _ h))) (by decide +kernel)
set_option maxRecDepth 20000 in
theorem ggX7_splits_X7_endFrom : GoodIn wsX7_splits wsX7_endFrom := (gi_cons (lg_wsX7_splits_0 _ (List.mem_of_getElem? (i := 5) rfl)) (goodIn_app (gi_cons (lg_wsX7_splits_0 _ (List.mem_of_getElem? (i := 0) rfl)) gi_nil) ls_wsX7_splits_0))
set_option maxRecDepth 20000 in
theorem gX7_splits_X7_endFrom : GoodIn wsX7_splits (wsV RX7 49 RX7 yX7_endFrom wsX7_endFrom) := goodIn_app (gi_cons (lg_wsX7_splits_0 _ (List.mem_of_getElem? (i := 1) rfl)) (gi_cons (lg_wsX7_splits_0 _ (List.mem_of_getElem? (i := 2) rfl)) (gi_cons (lg_wsX7_splits_0 _ (List.mem_of_getElem? (i := 3) rfl)) (gi_cons (lg_wsX7_splits_0 _ (List.mem_of_getElem? (i := 4) rfl)) gi_nil)))) ggX7_splits_X7_endFrom
set_option maxRecDepth 20000 in
theorem ggX7_splits_X7_find : GoodIn wsX7_splits wsX7_find := (gi_cons (lg_wsX7_splits_0 _ (List.mem_of_getElem? (i := 9) rfl)) (goodIn_app (gi_cons (lg_wsX7_splits_0 _ (List.mem_of_getElem? (i := 10) rfl)) (gi_cons (lg_wsX7_splits_0 _ (List.mem_of_getElem? (i := 11) rfl)) (gi_cons (lg_wsX7_splits_0 _ (List.mem_of_getElem? (i := 12) rfl)) (gi_cons (lg_wsX7_splits_0 _ (List.mem_of_getElem? (i := 4) rfl)) (gi_cons (lg_wsX7_splits_0 _ (List.mem_of_getElem? (i := 13) rfl)) (gi_cons (lg_wsX7_splits_0 _ (List.mem_of_getElem? (i := 0) rfl)) gi_nil)))))) ls_wsX7_splits_0))
set_option maxRecDepth 20000 in
theorem gX7_splits_X7_find : GoodIn wsX7_splits (wsV RX7 56 RX7 yX7_find wsX7_find) := goodIn_app (gi_cons (lg_wsX7_splits_0 _ (List.mem_of_getElem? (i := 6) rfl)) (gi_cons (lg_wsX7_splits_0 _ (List.mem_of_getElem? (i := 7) rfl)) (gi_cons (lg_wsX7_splits_0 _ (List.mem_of_getElem? (i := 8) rfl)) (gi_cons (lg_wsX7_splits_0 _ (List.mem_of_getElem? (i := 4) rfl)) gi_nil)))) ggX7_splits_X7_find
set_option maxRecDepth 20000 in
theorem ggX7_splits_X7_shifts : GoodIn wsX7_splits wsX7_shifts := (gi_cons (lg_wsX7_splits_0 _ (List.mem_of_getElem? (i := 17) rfl)) (goodIn_app (gi_cons (lg_wsX7_splits_0 _ (List.mem_of_getElem? (i := 0) rfl)) gi_nil) ls_wsX7_splits_0))
set_option maxRecDepth 20000 in
theorem gX7_splits_X7_shifts : GoodIn wsX7_splits (wsV RX7 60 RX7 yX7_shifts wsX7_shifts) := goodIn_app (gi_cons (lg_wsX7_splits_0 _ (List.mem_of_getElem? (i := 14) rfl)) (gi_cons (lg_wsX7_splits_0 _ (List.mem_of_getElem? (i := 15) rfl)) (gi_cons (lg_wsX7_splits_0 _ (List.mem_of_getElem? (i := 16) rfl)) (gi_cons (lg_wsX7_splits_0 _ (List.mem_of_getElem? (i := 4) rfl)) gi_nil)))) ggX7_splits_X7_shifts
theorem dX7_splits_0 : decode cX7_splits 0 = .ok (.iconst 0, 1) := by decide +kernel
theorem dX7_splits_1 : decode cX7_splits 1 = .ok (.istore_n 2, 1) := by decide +kernel
theorem dX7_splits_2 : decode cX7_splits 2 = .ok (.iload_n 2, 1) := by decide +kernel
theorem dX7_splits_3 : decode cX7_splits 3 = .ok (.aload_n 0, 1) := by decide +kernel
theorem dX7_splits_4 : decode cX7_splits 4 = .ok (.getfield 7, 3) := by decide +kernel
theorem dX7_splits_7 : decode cX7_splits 7 = .ok (.bipush 7, 2) := by decide +kernel
theorem dX7_splits_9 : decode cX7_splits 9 = .ok (.iaload, 1) := by decide +kernel
theorem dX7_splits_10 : decode cX7_splits 10 = .ok (.if_icmp .ge 112, 3) := by decide +kernel
theorem dX7_splits_13 : decode cX7_splits 13 = .ok (.aload_n 0, 1) := by decide +kernel
theorem dX7_splits_14 : decode cX7_splits 14 = .ok (.iload_n 2, 1) := by decide +kernel
theorem dX7_splits_15 : decode cX7_splits 15 = .ok (.invokevirtual 49, 3) := by decide +kernel
theorem dX7_splits_18 : decode cX7_splits 18 = .ok (.istore_n 3, 1) := by decide +kernel
theorem dX7_splits_19 : decode cX7_splits 19 = .ok (.aload_n 0, 1) := by decide +kernel
theorem dX7_splits_20 : decode cX7_splits 20 = .ok (.iload_n 1, 1) := by decide +kernel
theorem dX7_splits_21 : decode cX7_splits 21 = .ok (.iload_n 2, 1) := by decide +kernel
theorem dX7_splits_22 : decode cX7_splits 22 = .ok (.iload_n 3, 1) := by decide +kernel
theorem dX7_splits_23 : decode cX7_splits 23 = .ok (.iconst 0, 1) := by decide +kernel
theorem dX7_splits_24 : decode cX7_splits 24 = .ok (.invokevirtual 56, 3) := by decide +kernel
theorem dX7_splits_27 : decode cX7_splits 27 = .ok (.istore 4, 2) := by decide +kernel
theorem dX7_splits_29 : decode cX7_splits 29 = .ok (.iload 4, 2) := by decide +kernel
theorem dX7_splits_31 : decode cX7_splits 31 = .ok (.iconst (-1), 1) := by decide +kernel
theorem dX7_splits_32 : decode cX7_splits 32 = .ok (.if_icmp .eq 83, 3) := by decide +kernel
theorem dX7_splits_35 : decode cX7_splits 35 = .ok (.aload_n 0, 1) := by decide +kernel
theorem dX7_splits_36 : decode cX7_splits 36 = .ok (.iload_n 1, 1) := by decide +kernel
theorem dX7_splits_37 : decode cX7_splits 37 = .ok (.iload_n 2, 1) := by decide +kernel
theorem dX7_splits_38 : decode cX7_splits 38 = .ok (.iload_n 3, 1) := by decide +kernel
theorem dX7_splits_39 : decode cX7_splits 39 = .ok (.iconst 1, 1) := by decide +kernel
theorem dX7_splits_40 : decode cX7_splits 40 = .ok (.invokevirtual 56, 3) := by decide +kernel
theorem dX7_splits_43 : decode cX7_splits 43 = .ok (.istore 5, 2) := by decide +kernel
theorem dX7_splits_45 : decode cX7_splits 45 = .ok (.aload_n 0, 1) := by decide +kernel
theorem dX7_splits_46 : decode cX7_splits 46 = .ok (.getfield 7, 3) := by decide +kernel
theorem dX7_splits_49 : decode cX7_splits 49 = .ok (.sipush 448, 3) := by decide +kernel
theorem dX7_splits_52 : decode cX7_splits 52 = .ok (.iload 4, 2) := by decide +kernel
theorem dX7_splits_54 : decode cX7_splits 54 = .ok (.iadd, 1) := by decide +kernel
theorem dX7_splits_55 : decode cX7_splits 55 = .ok (.iload_n 1, 1) := by decide +kernel
theorem dX7_splits_56 : decode cX7_splits 56 = .ok (.bipush 64, 2) := by decide +kernel
theorem dX7_splits_58 : decode cX7_splits 58 = .ok (.iadd, 1) := by decide +kernel
theorem dX7_splits_59 : decode cX7_splits 59 = .ok (.iastore, 1) := by decide +kernel
theorem dX7_splits_60 : decode cX7_splits 60 = .ok (.iload 4, 2) := by decide +kernel
theorem dX7_splits_62 : decode cX7_splits 62 = .ok (.iload 5, 2) := by decide +kernel
theorem dX7_splits_64 : decode cX7_splits 64 = .ok (.if_icmp .ne 29, 3) := by decide +kernel
theorem dX7_splits_67 : decode cX7_splits 67 = .ok (.aload_n 0, 1) := by decide +kernel
theorem dX7_splits_68 : decode cX7_splits 68 = .ok (.iload 4, 2) := by decide +kernel
theorem dX7_splits_70 : decode cX7_splits 70 = .ok (.iconst 1, 1) := by decide +kernel
theorem dX7_splits_71 : decode cX7_splits 71 = .ok (.iadd, 1) := by decide +kernel
theorem dX7_splits_72 : decode cX7_splits 72 = .ok (.iconst 1, 1) := by decide +kernel
theorem dX7_splits_73 : decode cX7_splits 73 = .ok (.invokevirtual 60, 3) := by decide +kernel
theorem dX7_splits_76 : decode cX7_splits 76 = .ok (.aload_n 0, 1) := by decide +kernel
theorem dX7_splits_77 : decode cX7_splits 77 = .ok (.getfield 7, 3) := by decide +kernel
theorem dX7_splits_80 : decode cX7_splits 80 = .ok (.sipush 448, 3) := by decide +kernel
theorem dX7_splits_83 : decode cX7_splits 83 = .ok (.iload 4, 2) := by decide +kernel
theorem dX7_splits_85 : decode cX7_splits 85 = .ok (.iadd, 1) := by decide +kernel
theorem dX7_splits_86 : decode cX7_splits 86 = .ok (.iconst 1, 1) := by decide +kernel
theorem dX7_splits_87 : decode cX7_splits 87 = .ok (.iadd, 1) := by decide +kernel
theorem dX7_splits_88 : decode cX7_splits 88 = .ok (.iload_n 1, 1) := by decide +kernel
theorem dX7_splits_89 : decode cX7_splits 89 = .ok (.iastore, 1) := by decide +kernel
theorem dX7_splits_90 : decode cX7_splits 90 = .ok (.goto 16, 3) := by decide +kernel
theorem dX7_splits_93 : decode cX7_splits 93 = .ok (.aload_n 0, 1) := by decide +kernel
theorem dX7_splits_94 : decode cX7_splits 94 = .ok (.iload 5, 2) := by decide +kernel
theorem dX7_splits_96 : decode cX7_splits 96 = .ok (.iload 4, 2) := by decide +kernel
theorem dX7_splits_98 : decode cX7_splits 98 = .ok (.iconst 1, 1) := by decide +kernel
theorem dX7_splits_99 : decode cX7_splits 99 = .ok (.iadd, 1) := by decide +kernel
theorem dX7_splits_100 : decode cX7_splits 100 = .ok (.iload 5, 2) := by decide +kernel
theorem dX7_splits_102 : decode cX7_splits 102 = .ok (.isub, 1) := by decide +kernel
theorem dX7_splits_103 : decode cX7_splits 103 = .ok (.invokevirtual 60, 3) := by decide +kernel
theorem dX7_splits_106 : decode cX7_splits 106 = .ok (.aload_n 0, 1) := by decide +kernel
theorem dX7_splits_107 : decode cX7_splits 107 = .ok (.iload 4, 2) := by decide +kernel
theorem dX7_splits_109 : decode cX7_splits 109 = .ok (.iconst 1, 1) := by decide +kernel
theorem dX7_splits_110 : decode cX7_splits 110 = .ok (.iadd, 1) := by decide +kernel
theorem dX7_splits_111 : decode cX7_splits 111 = .ok (.invokevirtual 49, 3) := by decide +kernel
theorem dX7_splits_114 : decode cX7_splits 114 = .ok (.istore_n 3, 1) := by decide +kernel
theorem dX7_splits_115 : decode cX7_splits 115 = .ok (.iload_n 3, 1) := by decide +kernel
theorem dX7_splits_116 : decode cX7_splits 116 = .ok (.iconst 1, 1) := by decide +kernel
theorem dX7_splits_117 : decode cX7_splits 117 = .ok (.iadd, 1) := by decide +kernel
theorem dX7_splits_118 : decode cX7_splits 118 = .ok (.istore_n 2, 1) := by decide +kernel
theorem dX7_splits_119 : decode cX7_splits 119 = .ok (.goto (-117), 3) := by decide +kernel
theorem dX7_splits_122 : decode cX7_splits 122 = .ok (.return_, 1) := by decide +kernel
theorem lg_wsX7_fallsIn_0 : GoodIn wsX7_fallsIn ([.fieldLink RX7 7 "MolesLawnModel" "s" "[I", .methodLink RX7 49 yX7_endFrom, .instanceMethod yX7_endFrom, .selects RX7 yX7_endFrom yX7_endFrom, .initialized RX7, .code yX7_endFrom cX7_endFrom 3 (some .int), .methodLink RX7 56 yX7_find, .instanceMethod yX7_find, .selects RX7 yX7_find yX7_find, .code yX7_find cX7_find 7 (some .int), .methodLink RX7 53 yX7_tuftAt, .instanceMethod yX7_tuftAt, .selects RX7 yX7_tuftAt yX7_tuftAt, .code yX7_tuftAt cX7_tuftAt 2 (some .int), .methodLink RX7 60 yX7_shifts, .instanceMethod yX7_shifts, .selects RX7 yX7_shifts yX7_shifts, .code yX7_shifts cX7_shifts 4 none] : List Cond) := goodIn_sub (fun _ h => (List.mem_cons_of_mem _ (List.mem_append_left _ h))) (by decide +kernel)
theorem ls_wsX7_fallsIn_0 : GoodIn wsX7_fallsIn wsX70 := goodIn_sub (fun _ h => (List.mem_cons_of_mem _ (List.mem_append_right _ h))) (by decide +kernel)
set_option maxRecDepth 20000 in
theorem ggX7_fallsIn_X7_endFrom : GoodIn wsX7_fallsIn wsX7_endFrom := (gi_cons (lg_wsX7_fallsIn_0 _ (List.mem_of_getElem? (i := 5) rfl)) (goodIn_app (gi_cons (lg_wsX7_fallsIn_0 _ (List.mem_of_getElem? (i := 0) rfl)) gi_nil) ls_wsX7_fallsIn_0))
set_option maxRecDepth 20000 in
theorem gX7_fallsIn_X7_endFrom : GoodIn wsX7_fallsIn (wsV RX7 49 RX7 yX7_endFrom wsX7_endFrom) := goodIn_app (gi_cons (lg_wsX7_fallsIn_0 _ (List.mem_of_getElem? (i := 1) rfl)) (gi_cons (lg_wsX7_fallsIn_0 _ (List.mem_of_getElem? (i := 2) rfl)) (gi_cons (lg_wsX7_fallsIn_0 _ (List.mem_of_getElem? (i := 3) rfl)) (gi_cons (lg_wsX7_fallsIn_0 _ (List.mem_of_getElem? (i := 4) rfl)) gi_nil)))) ggX7_fallsIn_X7_endFrom
set_option maxRecDepth 20000 in
theorem ggX7_fallsIn_X7_find : GoodIn wsX7_fallsIn wsX7_find := (gi_cons (lg_wsX7_fallsIn_0 _ (List.mem_of_getElem? (i := 9) rfl)) (goodIn_app (gi_cons (lg_wsX7_fallsIn_0 _ (List.mem_of_getElem? (i := 10) rfl)) (gi_cons (lg_wsX7_fallsIn_0 _ (List.mem_of_getElem? (i := 11) rfl)) (gi_cons (lg_wsX7_fallsIn_0 _ (List.mem_of_getElem? (i := 12) rfl)) (gi_cons (lg_wsX7_fallsIn_0 _ (List.mem_of_getElem? (i := 4) rfl)) (gi_cons (lg_wsX7_fallsIn_0 _ (List.mem_of_getElem? (i := 13) rfl)) (gi_cons (lg_wsX7_fallsIn_0 _ (List.mem_of_getElem? (i := 0) rfl)) gi_nil)))))) ls_wsX7_fallsIn_0))
set_option maxRecDepth 20000 in
theorem gX7_fallsIn_X7_find : GoodIn wsX7_fallsIn (wsV RX7 56 RX7 yX7_find wsX7_find) := goodIn_app (gi_cons (lg_wsX7_fallsIn_0 _ (List.mem_of_getElem? (i := 6) rfl)) (gi_cons (lg_wsX7_fallsIn_0 _ (List.mem_of_getElem? (i := 7) rfl)) (gi_cons (lg_wsX7_fallsIn_0 _ (List.mem_of_getElem? (i := 8) rfl)) (gi_cons (lg_wsX7_fallsIn_0 _ (List.mem_of_getElem? (i := 4) rfl)) gi_nil)))) ggX7_fallsIn_X7_find
set_option maxRecDepth 20000 in
theorem ggX7_fallsIn_X7_shifts : GoodIn wsX7_fallsIn wsX7_shifts := (gi_cons (lg_wsX7_fallsIn_0 _ (List.mem_of_getElem? (i := 17) rfl)) (goodIn_app (gi_cons (lg_wsX7_fallsIn_0 _ (List.mem_of_getElem? (i := 0) rfl)) gi_nil) ls_wsX7_fallsIn_0))
set_option maxRecDepth 20000 in
theorem gX7_fallsIn_X7_shifts : GoodIn wsX7_fallsIn (wsV RX7 60 RX7 yX7_shifts wsX7_shifts) := goodIn_app (gi_cons (lg_wsX7_fallsIn_0 _ (List.mem_of_getElem? (i := 14) rfl)) (gi_cons (lg_wsX7_fallsIn_0 _ (List.mem_of_getElem? (i := 15) rfl)) (gi_cons (lg_wsX7_fallsIn_0 _ (List.mem_of_getElem? (i := 16) rfl)) (gi_cons (lg_wsX7_fallsIn_0 _ (List.mem_of_getElem? (i := 4) rfl)) gi_nil)))) ggX7_fallsIn_X7_shifts
theorem dX7_fallsIn_0 : decode cX7_fallsIn 0 = .ok (.iconst 0, 1) := by decide +kernel
theorem dX7_fallsIn_1 : decode cX7_fallsIn 1 = .ok (.istore_n 2, 1) := by decide +kernel
theorem dX7_fallsIn_2 : decode cX7_fallsIn 2 = .ok (.iconst 0, 1) := by decide +kernel
theorem dX7_fallsIn_3 : decode cX7_fallsIn 3 = .ok (.istore_n 3, 1) := by decide +kernel
theorem dX7_fallsIn_4 : decode cX7_fallsIn 4 = .ok (.iload_n 3, 1) := by decide +kernel
theorem dX7_fallsIn_5 : decode cX7_fallsIn 5 = .ok (.aload_n 0, 1) := by decide +kernel
theorem dX7_fallsIn_6 : decode cX7_fallsIn 6 = .ok (.getfield 7, 3) := by decide +kernel
theorem dX7_fallsIn_9 : decode cX7_fallsIn 9 = .ok (.bipush 7, 2) := by decide +kernel
theorem dX7_fallsIn_11 : decode cX7_fallsIn 11 = .ok (.iaload, 1) := by decide +kernel
theorem dX7_fallsIn_12 : decode cX7_fallsIn 12 = .ok (.if_icmp .ge 69, 3) := by decide +kernel
theorem dX7_fallsIn_15 : decode cX7_fallsIn 15 = .ok (.aload_n 0, 1) := by decide +kernel
theorem dX7_fallsIn_16 : decode cX7_fallsIn 16 = .ok (.iload_n 3, 1) := by decide +kernel
theorem dX7_fallsIn_17 : decode cX7_fallsIn 17 = .ok (.invokevirtual 49, 3) := by decide +kernel
theorem dX7_fallsIn_20 : decode cX7_fallsIn 20 = .ok (.istore 4, 2) := by decide +kernel
theorem dX7_fallsIn_22 : decode cX7_fallsIn 22 = .ok (.aload_n 0, 1) := by decide +kernel
theorem dX7_fallsIn_23 : decode cX7_fallsIn 23 = .ok (.iload_n 1, 1) := by decide +kernel
theorem dX7_fallsIn_24 : decode cX7_fallsIn 24 = .ok (.iload_n 3, 1) := by decide +kernel
theorem dX7_fallsIn_25 : decode cX7_fallsIn 25 = .ok (.iload 4, 2) := by decide +kernel
theorem dX7_fallsIn_27 : decode cX7_fallsIn 27 = .ok (.iconst 0, 1) := by decide +kernel
theorem dX7_fallsIn_28 : decode cX7_fallsIn 28 = .ok (.invokevirtual 56, 3) := by decide +kernel
theorem dX7_fallsIn_31 : decode cX7_fallsIn 31 = .ok (.iconst (-1), 1) := by decide +kernel
theorem dX7_fallsIn_32 : decode cX7_fallsIn 32 = .ok (.if_icmp .eq 7, 3) := by decide +kernel
theorem dX7_fallsIn_35 : decode cX7_fallsIn 35 = .ok (.iconst 1, 1) := by decide +kernel
theorem dX7_fallsIn_36 : decode cX7_fallsIn 36 = .ok (.goto 4, 3) := by decide +kernel
theorem dX7_fallsIn_39 : decode cX7_fallsIn 39 = .ok (.iconst 0, 1) := by decide +kernel
theorem dX7_fallsIn_40 : decode cX7_fallsIn 40 = .ok (.istore 5, 2) := by decide +kernel
theorem dX7_fallsIn_42 : decode cX7_fallsIn 42 = .ok (.iload 5, 2) := by decide +kernel
theorem dX7_fallsIn_44 : decode cX7_fallsIn 44 = .ok (.ifCond .eq 20, 3) := by decide +kernel
theorem dX7_fallsIn_47 : decode cX7_fallsIn 47 = .ok (.aload_n 0, 1) := by decide +kernel
theorem dX7_fallsIn_48 : decode cX7_fallsIn 48 = .ok (.iload 4, 2) := by decide +kernel
theorem dX7_fallsIn_50 : decode cX7_fallsIn 50 = .ok (.iconst 1, 1) := by decide +kernel
theorem dX7_fallsIn_51 : decode cX7_fallsIn 51 = .ok (.iadd, 1) := by decide +kernel
theorem dX7_fallsIn_52 : decode cX7_fallsIn 52 = .ok (.iload_n 3, 1) := by decide +kernel
theorem dX7_fallsIn_53 : decode cX7_fallsIn 53 = .ok (.iload 4, 2) := by decide +kernel
theorem dX7_fallsIn_55 : decode cX7_fallsIn 55 = .ok (.isub, 1) := by decide +kernel
theorem dX7_fallsIn_56 : decode cX7_fallsIn 56 = .ok (.iconst 1, 1) := by decide +kernel
theorem dX7_fallsIn_57 : decode cX7_fallsIn 57 = .ok (.isub, 1) := by decide +kernel
theorem dX7_fallsIn_58 : decode cX7_fallsIn 58 = .ok (.invokevirtual 60, 3) := by decide +kernel
theorem dX7_fallsIn_61 : decode cX7_fallsIn 61 = .ok (.iinc 2 1, 3) := by decide +kernel
theorem dX7_fallsIn_64 : decode cX7_fallsIn 64 = .ok (.iload 5, 2) := by decide +kernel
theorem dX7_fallsIn_66 : decode cX7_fallsIn 66 = .ok (.ifCond .eq 7, 3) := by decide +kernel
theorem dX7_fallsIn_69 : decode cX7_fallsIn 69 = .ok (.iload_n 3, 1) := by decide +kernel
theorem dX7_fallsIn_70 : decode cX7_fallsIn 70 = .ok (.goto 7, 3) := by decide +kernel
theorem dX7_fallsIn_73 : decode cX7_fallsIn 73 = .ok (.iload 4, 2) := by decide +kernel
theorem dX7_fallsIn_75 : decode cX7_fallsIn 75 = .ok (.iconst 1, 1) := by decide +kernel
theorem dX7_fallsIn_76 : decode cX7_fallsIn 76 = .ok (.iadd, 1) := by decide +kernel
theorem dX7_fallsIn_77 : decode cX7_fallsIn 77 = .ok (.istore_n 3, 1) := by decide +kernel
theorem dX7_fallsIn_78 : decode cX7_fallsIn 78 = .ok (.goto (-74), 3) := by decide +kernel
theorem dX7_fallsIn_81 : decode cX7_fallsIn 81 = .ok (.aload_n 0, 1) := by decide +kernel
theorem dX7_fallsIn_82 : decode cX7_fallsIn 82 = .ok (.getfield 7, 3) := by decide +kernel
theorem dX7_fallsIn_85 : decode cX7_fallsIn 85 = .ok (.iconst 5, 1) := by decide +kernel
theorem dX7_fallsIn_86 : decode cX7_fallsIn 86 = .ok (.dup2, 1) := by decide +kernel
theorem dX7_fallsIn_87 : decode cX7_fallsIn 87 = .ok (.iaload, 1) := by decide +kernel
theorem dX7_fallsIn_88 : decode cX7_fallsIn 88 = .ok (.iload_n 2, 1) := by decide +kernel
theorem dX7_fallsIn_89 : decode cX7_fallsIn 89 = .ok (.iadd, 1) := by decide +kernel
theorem dX7_fallsIn_90 : decode cX7_fallsIn 90 = .ok (.iastore, 1) := by decide +kernel
theorem dX7_fallsIn_91 : decode cX7_fallsIn 91 = .ok (.iload_n 2, 1) := by decide +kernel
theorem dX7_fallsIn_92 : decode cX7_fallsIn 92 = .ok (.ireturn, 1) := by decide +kernel
theorem lg_wsX7_inTrail_0 : GoodIn wsX7_inTrail ([.fieldLink RX7 7 "MolesLawnModel" "s" "[I", .methodLink RX7 64 yX7_of, .static yX7_of, .initialized RX7, .code yX7_of cX7_of 2 (some .int)] : List Cond) := goodIn_sub (fun _ h => (List.mem_cons_of_mem _ (List.mem_append_left _ h))) (by decide +kernel)
theorem ls_wsX7_inTrail_0 : GoodIn wsX7_inTrail wsX70 := goodIn_sub (fun _ h => (List.mem_cons_of_mem _ (List.mem_append_right _ h))) (by decide +kernel)
set_option maxRecDepth 20000 in
theorem ggX7_inTrail_X7_of : GoodIn wsX7_inTrail wsX7_of := (gi_cons (lg_wsX7_inTrail_0 _ (List.mem_of_getElem? (i := 4) rfl)) gi_nil)
set_option maxRecDepth 20000 in
theorem gX7_inTrail_X7_of : GoodIn wsX7_inTrail (va_wsS RX7 64 yX7_of wsX7_of) := goodIn_app (gi_cons (lg_wsX7_inTrail_0 _ (List.mem_of_getElem? (i := 1) rfl)) (gi_cons (lg_wsX7_inTrail_0 _ (List.mem_of_getElem? (i := 2) rfl)) (gi_cons (lg_wsX7_inTrail_0 _ (List.mem_of_getElem? (i := 3) rfl)) gi_nil))) ggX7_inTrail_X7_of
theorem dX7_inTrail_0 : decode cX7_inTrail 0 = .ok (.iconst (-1), 1) := by decide +kernel
theorem dX7_inTrail_1 : decode cX7_inTrail 1 = .ok (.istore 4, 2) := by decide +kernel
theorem dX7_inTrail_3 : decode cX7_inTrail 3 = .ok (.iconst 0, 1) := by decide +kernel
theorem dX7_inTrail_4 : decode cX7_inTrail 4 = .ok (.istore 5, 2) := by decide +kernel
theorem dX7_inTrail_6 : decode cX7_inTrail 6 = .ok (.iload 5, 2) := by decide +kernel
theorem dX7_inTrail_8 : decode cX7_inTrail 8 = .ok (.aload_n 0, 1) := by decide +kernel
theorem dX7_inTrail_9 : decode cX7_inTrail 9 = .ok (.getfield 7, 3) := by decide +kernel
theorem dX7_inTrail_12 : decode cX7_inTrail 12 = .ok (.iload_n 1, 1) := by decide +kernel
theorem dX7_inTrail_13 : decode cX7_inTrail 13 = .ok (.bipush 23, 2) := by decide +kernel
theorem dX7_inTrail_15 : decode cX7_inTrail 15 = .ok (.invokestatic 64, 3) := by decide +kernel
theorem dX7_inTrail_18 : decode cX7_inTrail 18 = .ok (.iaload, 1) := by decide +kernel
theorem dX7_inTrail_19 : decode cX7_inTrail 19 = .ok (.if_icmp .ge 46, 3) := by decide +kernel
theorem dX7_inTrail_22 : decode cX7_inTrail 22 = .ok (.aload_n 0, 1) := by decide +kernel
theorem dX7_inTrail_23 : decode cX7_inTrail 23 = .ok (.getfield 7, 3) := by decide +kernel
theorem dX7_inTrail_26 : decode cX7_inTrail 26 = .ok (.iload_n 1, 1) := by decide +kernel
theorem dX7_inTrail_27 : decode cX7_inTrail 27 = .ok (.bipush 24, 2) := by decide +kernel
theorem dX7_inTrail_29 : decode cX7_inTrail 29 = .ok (.iload 5, 2) := by decide +kernel
theorem dX7_inTrail_31 : decode cX7_inTrail 31 = .ok (.iadd, 1) := by decide +kernel
theorem dX7_inTrail_32 : decode cX7_inTrail 32 = .ok (.invokestatic 64, 3) := by decide +kernel
theorem dX7_inTrail_35 : decode cX7_inTrail 35 = .ok (.iaload, 1) := by decide +kernel
theorem dX7_inTrail_36 : decode cX7_inTrail 36 = .ok (.iload_n 2, 1) := by decide +kernel
theorem dX7_inTrail_37 : decode cX7_inTrail 37 = .ok (.if_icmp .ne 18, 3) := by decide +kernel
theorem dX7_inTrail_40 : decode cX7_inTrail 40 = .ok (.iload_n 3, 1) := by decide +kernel
theorem dX7_inTrail_41 : decode cX7_inTrail 41 = .ok (.ifCond .ne 9, 3) := by decide +kernel
theorem dX7_inTrail_44 : decode cX7_inTrail 44 = .ok (.iload 4, 2) := by decide +kernel
theorem dX7_inTrail_46 : decode cX7_inTrail 46 = .ok (.iconst (-1), 1) := by decide +kernel
theorem dX7_inTrail_47 : decode cX7_inTrail 47 = .ok (.if_icmp .ne 8, 3) := by decide +kernel
theorem dX7_inTrail_50 : decode cX7_inTrail 50 = .ok (.iload 5, 2) := by decide +kernel
theorem dX7_inTrail_52 : decode cX7_inTrail 52 = .ok (.goto 5, 3) := by decide +kernel
theorem dX7_inTrail_55 : decode cX7_inTrail 55 = .ok (.iload 4, 2) := by decide +kernel
theorem dX7_inTrail_57 : decode cX7_inTrail 57 = .ok (.istore 4, 2) := by decide +kernel
theorem dX7_inTrail_59 : decode cX7_inTrail 59 = .ok (.iinc 5 1, 3) := by decide +kernel
theorem dX7_inTrail_62 : decode cX7_inTrail 62 = .ok (.goto (-56), 3) := by decide +kernel
theorem dX7_inTrail_65 : decode cX7_inTrail 65 = .ok (.iload 4, 2) := by decide +kernel
theorem dX7_inTrail_67 : decode cX7_inTrail 67 = .ok (.ireturn, 1) := by decide +kernel
theorem lg_wsX7_digs_0 : GoodIn wsX7_digs ([.fieldLink RX7 7 "MolesLawnModel" "s" "[I", .methodLink RX7 64 yX7_of, .static yX7_of, .initialized RX7, .code yX7_of cX7_of 2 (some .int)] : List Cond) := goodIn_sub (fun _ h => (List.mem_cons_of_mem _ (List.mem_append_left _ h))) (by decide +kernel)
theorem ls_wsX7_digs_0 : GoodIn wsX7_digs wsX70 := goodIn_sub (fun _ h => (List.mem_cons_of_mem _ (List.mem_append_right _ h))) (by decide +kernel)
set_option maxRecDepth 20000 in
theorem ggX7_digs_X7_of : GoodIn wsX7_digs wsX7_of := (gi_cons (lg_wsX7_digs_0 _ (List.mem_of_getElem? (i := 4) rfl)) gi_nil)
set_option maxRecDepth 20000 in
theorem gX7_digs_X7_of : GoodIn wsX7_digs (va_wsS RX7 64 yX7_of wsX7_of) := goodIn_app (gi_cons (lg_wsX7_digs_0 _ (List.mem_of_getElem? (i := 1) rfl)) (gi_cons (lg_wsX7_digs_0 _ (List.mem_of_getElem? (i := 2) rfl)) (gi_cons (lg_wsX7_digs_0 _ (List.mem_of_getElem? (i := 3) rfl)) gi_nil))) ggX7_digs_X7_of
theorem dX7_digs_0 : decode cX7_digs 0 = .ok (.iconst 0, 1) := by decide +kernel
theorem dX7_digs_1 : decode cX7_digs 1 = .ok (.istore_n 3, 1) := by decide +kernel
theorem dX7_digs_2 : decode cX7_digs 2 = .ok (.iload_n 3, 1) := by decide +kernel
theorem dX7_digs_3 : decode cX7_digs 3 = .ok (.iload_n 2, 1) := by decide +kernel
theorem dX7_digs_4 : decode cX7_digs 4 = .ok (.if_icmp .gt 61, 3) := by decide +kernel
theorem dX7_digs_7 : decode cX7_digs 7 = .ok (.aload_n 0, 1) := by decide +kernel
theorem dX7_digs_8 : decode cX7_digs 8 = .ok (.getfield 7, 3) := by decide +kernel
theorem dX7_digs_11 : decode cX7_digs 11 = .ok (.sipush 448, 3) := by decide +kernel
theorem dX7_digs_14 : decode cX7_digs 14 = .ok (.aload_n 0, 1) := by decide +kernel
theorem dX7_digs_15 : decode cX7_digs 15 = .ok (.getfield 7, 3) := by decide +kernel
theorem dX7_digs_18 : decode cX7_digs 18 = .ok (.bipush 7, 2) := by decide +kernel
theorem dX7_digs_20 : decode cX7_digs 20 = .ok (.iaload, 1) := by decide +kernel
theorem dX7_digs_21 : decode cX7_digs 21 = .ok (.iadd, 1) := by decide +kernel
theorem dX7_digs_22 : decode cX7_digs 22 = .ok (.aload_n 0, 1) := by decide +kernel
theorem dX7_digs_23 : decode cX7_digs 23 = .ok (.getfield 7, 3) := by decide +kernel
theorem dX7_digs_26 : decode cX7_digs 26 = .ok (.iload_n 1, 1) := by decide +kernel
theorem dX7_digs_27 : decode cX7_digs 27 = .ok (.bipush 24, 2) := by decide +kernel
theorem dX7_digs_29 : decode cX7_digs 29 = .ok (.iload_n 3, 1) := by decide +kernel
theorem dX7_digs_30 : decode cX7_digs 30 = .ok (.iadd, 1) := by decide +kernel
theorem dX7_digs_31 : decode cX7_digs 31 = .ok (.invokestatic 64, 3) := by decide +kernel
theorem dX7_digs_34 : decode cX7_digs 34 = .ok (.iaload, 1) := by decide +kernel
theorem dX7_digs_35 : decode cX7_digs 35 = .ok (.iload_n 3, 1) := by decide +kernel
theorem dX7_digs_36 : decode cX7_digs 36 = .ok (.iload_n 2, 1) := by decide +kernel
theorem dX7_digs_37 : decode cX7_digs 37 = .ok (.if_icmp .ne 8, 3) := by decide +kernel
theorem dX7_digs_40 : decode cX7_digs 40 = .ok (.bipush 64, 2) := by decide +kernel
theorem dX7_digs_42 : decode cX7_digs 42 = .ok (.goto 4, 3) := by decide +kernel
theorem dX7_digs_45 : decode cX7_digs 45 = .ok (.iconst 0, 1) := by decide +kernel
theorem dX7_digs_46 : decode cX7_digs 46 = .ok (.iadd, 1) := by decide +kernel
theorem dX7_digs_47 : decode cX7_digs 47 = .ok (.iastore, 1) := by decide +kernel
theorem dX7_digs_48 : decode cX7_digs 48 = .ok (.aload_n 0, 1) := by decide +kernel
theorem dX7_digs_49 : decode cX7_digs 49 = .ok (.getfield 7, 3) := by decide +kernel
theorem dX7_digs_52 : decode cX7_digs 52 = .ok (.bipush 7, 2) := by decide +kernel
theorem dX7_digs_54 : decode cX7_digs 54 = .ok (.dup2, 1) := by decide +kernel
theorem dX7_digs_55 : decode cX7_digs 55 = .ok (.iaload, 1) := by decide +kernel
theorem dX7_digs_56 : decode cX7_digs 56 = .ok (.iconst 1, 1) := by decide +kernel
theorem dX7_digs_57 : decode cX7_digs 57 = .ok (.iadd, 1) := by decide +kernel
theorem dX7_digs_58 : decode cX7_digs 58 = .ok (.iastore, 1) := by decide +kernel
theorem dX7_digs_59 : decode cX7_digs 59 = .ok (.iinc 3 1, 3) := by decide +kernel
theorem dX7_digs_62 : decode cX7_digs 62 = .ok (.goto (-60), 3) := by decide +kernel
theorem dX7_digs_65 : decode cX7_digs 65 = .ok (.return_, 1) := by decide +kernel
theorem lg_wsX7_beginsTrail_0 : GoodIn wsX7_beginsTrail ([.fieldLink RX7 7 "MolesLawnModel" "s" "[I", .methodLink RX7 64 yX7_of, .static yX7_of, .initialized RX7, .code yX7_of cX7_of 2 (some .int)] : List Cond) := goodIn_sub (fun _ h => (List.mem_cons_of_mem _ (List.mem_append_left _ h))) (by decide +kernel)
theorem ls_wsX7_beginsTrail_0 : GoodIn wsX7_beginsTrail wsX70 := goodIn_sub (fun _ h => (List.mem_cons_of_mem _ (List.mem_append_right _ h))) (by decide +kernel)
set_option maxRecDepth 20000 in
theorem ggX7_beginsTrail_X7_of : GoodIn wsX7_beginsTrail wsX7_of := (gi_cons (lg_wsX7_beginsTrail_0 _ (List.mem_of_getElem? (i := 4) rfl)) gi_nil)
set_option maxRecDepth 20000 in
theorem gX7_beginsTrail_X7_of : GoodIn wsX7_beginsTrail (va_wsS RX7 64 yX7_of wsX7_of) := goodIn_app (gi_cons (lg_wsX7_beginsTrail_0 _ (List.mem_of_getElem? (i := 1) rfl)) (gi_cons (lg_wsX7_beginsTrail_0 _ (List.mem_of_getElem? (i := 2) rfl)) (gi_cons (lg_wsX7_beginsTrail_0 _ (List.mem_of_getElem? (i := 3) rfl)) gi_nil))) ggX7_beginsTrail_X7_of
theorem dX7_beginsTrail_0 : decode cX7_beginsTrail 0 = .ok (.aload_n 0, 1) := by decide +kernel
theorem dX7_beginsTrail_1 : decode cX7_beginsTrail 1 = .ok (.getfield 7, 3) := by decide +kernel
theorem dX7_beginsTrail_4 : decode cX7_beginsTrail 4 = .ok (.iload_n 1, 1) := by decide +kernel
theorem dX7_beginsTrail_5 : decode cX7_beginsTrail 5 = .ok (.bipush 23, 2) := by decide +kernel
theorem dX7_beginsTrail_7 : decode cX7_beginsTrail 7 = .ok (.invokestatic 64, 3) := by decide +kernel
theorem dX7_beginsTrail_10 : decode cX7_beginsTrail 10 = .ok (.iconst 1, 1) := by decide +kernel
theorem dX7_beginsTrail_11 : decode cX7_beginsTrail 11 = .ok (.iastore, 1) := by decide +kernel
theorem dX7_beginsTrail_12 : decode cX7_beginsTrail 12 = .ok (.aload_n 0, 1) := by decide +kernel
theorem dX7_beginsTrail_13 : decode cX7_beginsTrail 13 = .ok (.getfield 7, 3) := by decide +kernel
theorem dX7_beginsTrail_16 : decode cX7_beginsTrail 16 = .ok (.iload_n 1, 1) := by decide +kernel
theorem dX7_beginsTrail_17 : decode cX7_beginsTrail 17 = .ok (.bipush 24, 2) := by decide +kernel
theorem dX7_beginsTrail_19 : decode cX7_beginsTrail 19 = .ok (.invokestatic 64, 3) := by decide +kernel
theorem dX7_beginsTrail_22 : decode cX7_beginsTrail 22 = .ok (.aload_n 0, 1) := by decide +kernel
theorem dX7_beginsTrail_23 : decode cX7_beginsTrail 23 = .ok (.getfield 7, 3) := by decide +kernel
theorem dX7_beginsTrail_26 : decode cX7_beginsTrail 26 = .ok (.iload_n 1, 1) := by decide +kernel
theorem dX7_beginsTrail_27 : decode cX7_beginsTrail 27 = .ok (.iconst 0, 1) := by decide +kernel
theorem dX7_beginsTrail_28 : decode cX7_beginsTrail 28 = .ok (.invokestatic 64, 3) := by decide +kernel
theorem dX7_beginsTrail_31 : decode cX7_beginsTrail 31 = .ok (.iaload, 1) := by decide +kernel
theorem dX7_beginsTrail_32 : decode cX7_beginsTrail 32 = .ok (.iastore, 1) := by decide +kernel
theorem dX7_beginsTrail_33 : decode cX7_beginsTrail 33 = .ok (.aload_n 0, 1) := by decide +kernel
theorem dX7_beginsTrail_34 : decode cX7_beginsTrail 34 = .ok (.getfield 7, 3) := by decide +kernel
theorem dX7_beginsTrail_37 : decode cX7_beginsTrail 37 = .ok (.iload_n 1, 1) := by decide +kernel
theorem dX7_beginsTrail_38 : decode cX7_beginsTrail 38 = .ok (.iconst 1, 1) := by decide +kernel
theorem dX7_beginsTrail_39 : decode cX7_beginsTrail 39 = .ok (.invokestatic 64, 3) := by decide +kernel
theorem dX7_beginsTrail_42 : decode cX7_beginsTrail 42 = .ok (.aload_n 0, 1) := by decide +kernel
theorem dX7_beginsTrail_43 : decode cX7_beginsTrail 43 = .ok (.getfield 7, 3) := by decide +kernel
theorem dX7_beginsTrail_46 : decode cX7_beginsTrail 46 = .ok (.bipush 6, 2) := by decide +kernel
theorem dX7_beginsTrail_48 : decode cX7_beginsTrail 48 = .ok (.iaload, 1) := by decide +kernel
theorem dX7_beginsTrail_49 : decode cX7_beginsTrail 49 = .ok (.iastore, 1) := by decide +kernel
theorem dX7_beginsTrail_50 : decode cX7_beginsTrail 50 = .ok (.return_, 1) := by decide +kernel
theorem lg_wsX7_comesUp_0 : GoodIn wsX7_comesUp wsX7_comesUp_r1 := goodIn_sub (fun _ h => (List.mem_cons_of_mem _ (List.mem_append_left _ (List.mem_append_left _ h)))) (by decide +kernel)
theorem lg_wsX7_comesUp_1 : GoodIn wsX7_comesUp wsX7_comesUp_r2 := goodIn_sub (fun _ h => (List.mem_cons_of_mem _ (List.mem_append_left _ (List.mem_append_right _ h)))) (by decide +kernel)
theorem ls_wsX7_comesUp_0 : GoodIn wsX7_comesUp wsX70 := goodIn_sub (fun _ h => (List.mem_cons_of_mem _ (List.mem_append_right _ h))) (by decide +kernel)
set_option maxRecDepth 20000 in
theorem ggX7_comesUp_X7_splits : GoodIn wsX7_comesUp wsX7_splits := (gi_cons (lg_wsX7_comesUp_0 _ (List.mem_of_getElem? (i := 5) rfl)) (goodIn_app (gi_cons (lg_wsX7_comesUp_0 _ (List.mem_of_getElem? (i := 0) rfl)) (gi_cons (lg_wsX7_comesUp_0 _ (List.mem_of_getElem? (i := 6) rfl)) (gi_cons (lg_wsX7_comesUp_0 _ (List.mem_of_getElem? (i := 7) rfl)) (gi_cons (lg_wsX7_comesUp_0 _ (List.mem_of_getElem? (i := 8) rfl)) (gi_cons (lg_wsX7_comesUp_0 _ (List.mem_of_getElem? (i := 4) rfl)) (gi_cons (lg_wsX7_comesUp_0 _ (List.mem_of_getElem? (i := 9) rfl)) (gi_cons (lg_wsX7_comesUp_0 _ (List.mem_of_getElem? (i := 10) rfl)) (gi_cons (lg_wsX7_comesUp_0 _ (List.mem_of_getElem? (i := 11) rfl)) (gi_cons (lg_wsX7_comesUp_0 _ (List.mem_of_getElem? (i := 12) rfl)) (gi_cons (lg_wsX7_comesUp_0 _ (List.mem_of_getElem? (i := 13) rfl)) (gi_cons (lg_wsX7_comesUp_0 _ (List.mem_of_getElem? (i := 14) rfl)) (gi_cons (lg_wsX7_comesUp_0 _ (List.mem_of_getElem? (i := 15) rfl)) (gi_cons (lg_wsX7_comesUp_0 _ (List.mem_of_getElem? (i := 16) rfl)) (gi_cons (lg_wsX7_comesUp_0 _ (List.mem_of_getElem? (i := 17) rfl)) (gi_cons (lg_wsX7_comesUp_0 _ (List.mem_of_getElem? (i := 18) rfl)) (gi_cons (lg_wsX7_comesUp_0 _ (List.mem_of_getElem? (i := 19) rfl)) (gi_cons (lg_wsX7_comesUp_0 _ (List.mem_of_getElem? (i := 20) rfl)) (gi_cons (lg_wsX7_comesUp_0 _ (List.mem_of_getElem? (i := 21) rfl)) gi_nil)))))))))))))))))) ls_wsX7_comesUp_0))
set_option maxRecDepth 20000 in
theorem gX7_comesUp_X7_splits : GoodIn wsX7_comesUp (wsV RX7 68 RX7 yX7_splits wsX7_splits) := goodIn_app (gi_cons (lg_wsX7_comesUp_0 _ (List.mem_of_getElem? (i := 1) rfl)) (gi_cons (lg_wsX7_comesUp_0 _ (List.mem_of_getElem? (i := 2) rfl)) (gi_cons (lg_wsX7_comesUp_0 _ (List.mem_of_getElem? (i := 3) rfl)) (gi_cons (lg_wsX7_comesUp_0 _ (List.mem_of_getElem? (i := 4) rfl)) gi_nil)))) ggX7_comesUp_X7_splits
set_option maxRecDepth 20000 in
theorem ggX7_comesUp_X7_inTrail : GoodIn wsX7_comesUp wsX7_inTrail := (gi_cons (lg_wsX7_comesUp_1 _ (List.mem_of_getElem? (i := 1) rfl)) (goodIn_app (gi_cons (lg_wsX7_comesUp_0 _ (List.mem_of_getElem? (i := 0) rfl)) (gi_cons (lg_wsX7_comesUp_1 _ (List.mem_of_getElem? (i := 2) rfl)) (gi_cons (lg_wsX7_comesUp_1 _ (List.mem_of_getElem? (i := 3) rfl)) (gi_cons (lg_wsX7_comesUp_0 _ (List.mem_of_getElem? (i := 4) rfl)) (gi_cons (lg_wsX7_comesUp_1 _ (List.mem_of_getElem? (i := 4) rfl)) gi_nil))))) ls_wsX7_comesUp_0))
set_option maxRecDepth 20000 in
theorem gX7_comesUp_X7_inTrail : GoodIn wsX7_comesUp (wsV RX7 72 RX7 yX7_inTrail wsX7_inTrail) := goodIn_app (gi_cons (lg_wsX7_comesUp_0 _ (List.mem_of_getElem? (i := 22) rfl)) (gi_cons (lg_wsX7_comesUp_0 _ (List.mem_of_getElem? (i := 23) rfl)) (gi_cons (lg_wsX7_comesUp_1 _ (List.mem_of_getElem? (i := 0) rfl)) (gi_cons (lg_wsX7_comesUp_0 _ (List.mem_of_getElem? (i := 4) rfl)) gi_nil)))) ggX7_comesUp_X7_inTrail
set_option maxRecDepth 20000 in
theorem ggX7_comesUp_X7_digs : GoodIn wsX7_comesUp wsX7_digs := (gi_cons (lg_wsX7_comesUp_1 _ (List.mem_of_getElem? (i := 8) rfl)) (goodIn_app (gi_cons (lg_wsX7_comesUp_0 _ (List.mem_of_getElem? (i := 0) rfl)) (gi_cons (lg_wsX7_comesUp_1 _ (List.mem_of_getElem? (i := 2) rfl)) (gi_cons (lg_wsX7_comesUp_1 _ (List.mem_of_getElem? (i := 3) rfl)) (gi_cons (lg_wsX7_comesUp_0 _ (List.mem_of_getElem? (i := 4) rfl)) (gi_cons (lg_wsX7_comesUp_1 _ (List.mem_of_getElem? (i := 4) rfl)) gi_nil))))) ls_wsX7_comesUp_0))
set_option maxRecDepth 20000 in
theorem gX7_comesUp_X7_digs : GoodIn wsX7_comesUp (wsV RX7 76 RX7 yX7_digs wsX7_digs) := goodIn_app (gi_cons (lg_wsX7_comesUp_1 _ (List.mem_of_getElem? (i := 5) rfl)) (gi_cons (lg_wsX7_comesUp_1 _ (List.mem_of_getElem? (i := 6) rfl)) (gi_cons (lg_wsX7_comesUp_1 _ (List.mem_of_getElem? (i := 7) rfl)) (gi_cons (lg_wsX7_comesUp_0 _ (List.mem_of_getElem? (i := 4) rfl)) gi_nil)))) ggX7_comesUp_X7_digs
set_option maxRecDepth 20000 in
theorem ggX7_comesUp_X7_of : GoodIn wsX7_comesUp wsX7_of := (gi_cons (lg_wsX7_comesUp_1 _ (List.mem_of_getElem? (i := 4) rfl)) gi_nil)
set_option maxRecDepth 20000 in
theorem gX7_comesUp_X7_of : GoodIn wsX7_comesUp (va_wsS RX7 64 yX7_of wsX7_of) := goodIn_app (gi_cons (lg_wsX7_comesUp_1 _ (List.mem_of_getElem? (i := 2) rfl)) (gi_cons (lg_wsX7_comesUp_1 _ (List.mem_of_getElem? (i := 3) rfl)) (gi_cons (lg_wsX7_comesUp_0 _ (List.mem_of_getElem? (i := 4) rfl)) gi_nil))) ggX7_comesUp_X7_of
theorem dX7_comesUp_0 : decode cX7_comesUp 0 = .ok (.aload_n 0, 1) := by decide +kernel
theorem dX7_comesUp_1 : decode cX7_comesUp 1 = .ok (.getfield 7, 3) := by decide +kernel
theorem dX7_comesUp_4 : decode cX7_comesUp 4 = .ok (.bipush 8, 2) := by decide +kernel
theorem dX7_comesUp_6 : decode cX7_comesUp 6 = .ok (.iload_n 1, 1) := by decide +kernel
theorem dX7_comesUp_7 : decode cX7_comesUp 7 = .ok (.iadd, 1) := by decide +kernel
theorem dX7_comesUp_8 : decode cX7_comesUp 8 = .ok (.iconst 1, 1) := by decide +kernel
theorem dX7_comesUp_9 : decode cX7_comesUp 9 = .ok (.iastore, 1) := by decide +kernel
theorem dX7_comesUp_10 : decode cX7_comesUp 10 = .ok (.aload_n 0, 1) := by decide +kernel
theorem dX7_comesUp_11 : decode cX7_comesUp 11 = .ok (.getfield 7, 3) := by decide +kernel
theorem dX7_comesUp_14 : decode cX7_comesUp 14 = .ok (.iconst 4, 1) := by decide +kernel
theorem dX7_comesUp_15 : decode cX7_comesUp 15 = .ok (.dup2, 1) := by decide +kernel
theorem dX7_comesUp_16 : decode cX7_comesUp 16 = .ok (.iaload, 1) := by decide +kernel
theorem dX7_comesUp_17 : decode cX7_comesUp 17 = .ok (.iconst 1, 1) := by decide +kernel
theorem dX7_comesUp_18 : decode cX7_comesUp 18 = .ok (.iadd, 1) := by decide +kernel
theorem dX7_comesUp_19 : decode cX7_comesUp 19 = .ok (.iastore, 1) := by decide +kernel
theorem dX7_comesUp_20 : decode cX7_comesUp 20 = .ok (.aload_n 0, 1) := by decide +kernel
theorem dX7_comesUp_21 : decode cX7_comesUp 21 = .ok (.iload_n 1, 1) := by decide +kernel
theorem dX7_comesUp_22 : decode cX7_comesUp 22 = .ok (.invokevirtual 68, 3) := by decide +kernel
theorem dX7_comesUp_25 : decode cX7_comesUp 25 = .ok (.iconst 0, 1) := by decide +kernel
theorem dX7_comesUp_26 : decode cX7_comesUp 26 = .ok (.istore_n 2, 1) := by decide +kernel
theorem dX7_comesUp_27 : decode cX7_comesUp 27 = .ok (.iload_n 2, 1) := by decide +kernel
theorem dX7_comesUp_28 : decode cX7_comesUp 28 = .ok (.aload_n 0, 1) := by decide +kernel
theorem dX7_comesUp_29 : decode cX7_comesUp 29 = .ok (.getfield 7, 3) := by decide +kernel
theorem dX7_comesUp_32 : decode cX7_comesUp 32 = .ok (.iconst 1, 1) := by decide +kernel
theorem dX7_comesUp_33 : decode cX7_comesUp 33 = .ok (.iaload, 1) := by decide +kernel
theorem dX7_comesUp_34 : decode cX7_comesUp 34 = .ok (.if_icmp .ge 108, 3) := by decide +kernel
theorem dX7_comesUp_37 : decode cX7_comesUp 37 = .ok (.aload_n 0, 1) := by decide +kernel
theorem dX7_comesUp_38 : decode cX7_comesUp 38 = .ok (.iload_n 2, 1) := by decide +kernel
theorem dX7_comesUp_39 : decode cX7_comesUp 39 = .ok (.iload_n 1, 1) := by decide +kernel
theorem dX7_comesUp_40 : decode cX7_comesUp 40 = .ok (.iconst 0, 1) := by decide +kernel
theorem dX7_comesUp_41 : decode cX7_comesUp 41 = .ok (.invokevirtual 72, 3) := by decide +kernel
theorem dX7_comesUp_44 : decode cX7_comesUp 44 = .ok (.istore_n 3, 1) := by decide +kernel
theorem dX7_comesUp_45 : decode cX7_comesUp 45 = .ok (.iload_n 3, 1) := by decide +kernel
theorem dX7_comesUp_46 : decode cX7_comesUp 46 = .ok (.ifCond .le 90, 3) := by decide +kernel
theorem dX7_comesUp_49 : decode cX7_comesUp 49 = .ok (.aload_n 0, 1) := by decide +kernel
theorem dX7_comesUp_50 : decode cX7_comesUp 50 = .ok (.iload_n 2, 1) := by decide +kernel
theorem dX7_comesUp_51 : decode cX7_comesUp 51 = .ok (.iload_n 1, 1) := by decide +kernel
theorem dX7_comesUp_52 : decode cX7_comesUp 52 = .ok (.iconst 1, 1) := by decide +kernel
theorem dX7_comesUp_53 : decode cX7_comesUp 53 = .ok (.invokevirtual 72, 3) := by decide +kernel
theorem dX7_comesUp_56 : decode cX7_comesUp 56 = .ok (.istore 4, 2) := by decide +kernel
theorem dX7_comesUp_58 : decode cX7_comesUp 58 = .ok (.aload_n 0, 1) := by decide +kernel
theorem dX7_comesUp_59 : decode cX7_comesUp 59 = .ok (.iload_n 2, 1) := by decide +kernel
theorem dX7_comesUp_60 : decode cX7_comesUp 60 = .ok (.iload_n 3, 1) := by decide +kernel
theorem dX7_comesUp_61 : decode cX7_comesUp 61 = .ok (.invokevirtual 76, 3) := by decide +kernel
theorem dX7_comesUp_64 : decode cX7_comesUp 64 = .ok (.aload_n 0, 1) := by decide +kernel
theorem dX7_comesUp_65 : decode cX7_comesUp 65 = .ok (.getfield 7, 3) := by decide +kernel
theorem dX7_comesUp_68 : decode cX7_comesUp 68 = .ok (.iload_n 2, 1) := by decide +kernel
theorem dX7_comesUp_69 : decode cX7_comesUp 69 = .ok (.bipush 23, 2) := by decide +kernel
theorem dX7_comesUp_71 : decode cX7_comesUp 71 = .ok (.invokestatic 64, 3) := by decide +kernel
theorem dX7_comesUp_74 : decode cX7_comesUp 74 = .ok (.dup2, 1) := by decide +kernel
theorem dX7_comesUp_75 : decode cX7_comesUp 75 = .ok (.iaload, 1) := by decide +kernel
theorem dX7_comesUp_76 : decode cX7_comesUp 76 = .ok (.iload 4, 2) := by decide +kernel
theorem dX7_comesUp_78 : decode cX7_comesUp 78 = .ok (.isub, 1) := by decide +kernel
theorem dX7_comesUp_79 : decode cX7_comesUp 79 = .ok (.iastore, 1) := by decide +kernel
theorem dX7_comesUp_80 : decode cX7_comesUp 80 = .ok (.iconst 0, 1) := by decide +kernel
theorem dX7_comesUp_81 : decode cX7_comesUp 81 = .ok (.istore 5, 2) := by decide +kernel
theorem dX7_comesUp_83 : decode cX7_comesUp 83 = .ok (.iload 5, 2) := by decide +kernel
theorem dX7_comesUp_85 : decode cX7_comesUp 85 = .ok (.aload_n 0, 1) := by decide +kernel
theorem dX7_comesUp_86 : decode cX7_comesUp 86 = .ok (.getfield 7, 3) := by decide +kernel
theorem dX7_comesUp_89 : decode cX7_comesUp 89 = .ok (.iload_n 2, 1) := by decide +kernel
theorem dX7_comesUp_90 : decode cX7_comesUp 90 = .ok (.bipush 23, 2) := by decide +kernel
theorem dX7_comesUp_92 : decode cX7_comesUp 92 = .ok (.invokestatic 64, 3) := by decide +kernel
theorem dX7_comesUp_95 : decode cX7_comesUp 95 = .ok (.iaload, 1) := by decide +kernel
theorem dX7_comesUp_96 : decode cX7_comesUp 96 = .ok (.if_icmp .ge 40, 3) := by decide +kernel
theorem dX7_comesUp_99 : decode cX7_comesUp 99 = .ok (.aload_n 0, 1) := by decide +kernel
theorem dX7_comesUp_100 : decode cX7_comesUp 100 = .ok (.getfield 7, 3) := by decide +kernel
theorem dX7_comesUp_103 : decode cX7_comesUp 103 = .ok (.iload_n 2, 1) := by decide +kernel
theorem dX7_comesUp_104 : decode cX7_comesUp 104 = .ok (.bipush 24, 2) := by decide +kernel
theorem dX7_comesUp_106 : decode cX7_comesUp 106 = .ok (.iload 5, 2) := by decide +kernel
theorem dX7_comesUp_108 : decode cX7_comesUp 108 = .ok (.iadd, 1) := by decide +kernel
theorem dX7_comesUp_109 : decode cX7_comesUp 109 = .ok (.invokestatic 64, 3) := by decide +kernel
theorem dX7_comesUp_112 : decode cX7_comesUp 112 = .ok (.aload_n 0, 1) := by decide +kernel
theorem dX7_comesUp_113 : decode cX7_comesUp 113 = .ok (.getfield 7, 3) := by decide +kernel
theorem dX7_comesUp_116 : decode cX7_comesUp 116 = .ok (.iload_n 2, 1) := by decide +kernel
theorem dX7_comesUp_117 : decode cX7_comesUp 117 = .ok (.bipush 24, 2) := by decide +kernel
theorem dX7_comesUp_119 : decode cX7_comesUp 119 = .ok (.iload 5, 2) := by decide +kernel
theorem dX7_comesUp_121 : decode cX7_comesUp 121 = .ok (.iadd, 1) := by decide +kernel
theorem dX7_comesUp_122 : decode cX7_comesUp 122 = .ok (.iload 4, 2) := by decide +kernel
theorem dX7_comesUp_124 : decode cX7_comesUp 124 = .ok (.iadd, 1) := by decide +kernel
theorem dX7_comesUp_125 : decode cX7_comesUp 125 = .ok (.invokestatic 64, 3) := by decide +kernel
theorem dX7_comesUp_128 : decode cX7_comesUp 128 = .ok (.iaload, 1) := by decide +kernel
theorem dX7_comesUp_129 : decode cX7_comesUp 129 = .ok (.iastore, 1) := by decide +kernel
theorem dX7_comesUp_130 : decode cX7_comesUp 130 = .ok (.iinc 5 1, 3) := by decide +kernel
theorem dX7_comesUp_133 : decode cX7_comesUp 133 = .ok (.goto (-50), 3) := by decide +kernel
theorem dX7_comesUp_136 : decode cX7_comesUp 136 = .ok (.iinc 2 1, 3) := by decide +kernel
theorem dX7_comesUp_139 : decode cX7_comesUp 139 = .ok (.goto (-112), 3) := by decide +kernel
theorem dX7_comesUp_142 : decode cX7_comesUp 142 = .ok (.return_, 1) := by decide +kernel
