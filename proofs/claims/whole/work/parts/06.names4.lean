theorem dX5_init_0 : decode cX5_init 0 = .ok (.aload_n 0, 1) := by decide +kernel
theorem dX5_init_1 : decode cX5_init 1 = .ok (.invokespecial 3, 3) := by decide +kernel
theorem dX5_init_4 : decode cX5_init 4 = .ok (.aload_n 0, 1) := by decide +kernel
theorem dX5_init_5 : decode cX5_init 5 = .ok (.bipush 60, 2) := by decide +kernel
theorem dX5_init_7 : decode cX5_init 7 = .ok (.newarray .int, 2) := by decide +kernel
theorem dX5_init_9 : decode cX5_init 9 = .ok (.putfield 9, 3) := by decide +kernel
theorem dX5_init_12 : decode cX5_init 12 = .ok (.return_, 1) := by decide +kernel
theorem dX5_put_0 : decode cX5_put 0 = .ok (.aload_n 0, 1) := by decide +kernel
theorem dX5_put_1 : decode cX5_put 1 = .ok (.getfield 15, 3) := by decide +kernel
theorem dX5_put_4 : decode cX5_put 4 = .ok (.bipush 60, 2) := by decide +kernel
theorem dX5_put_6 : decode cX5_put 6 = .ok (.if_icmp .ge 23, 3) := by decide +kernel
theorem dX5_put_9 : decode cX5_put 9 = .ok (.aload_n 0, 1) := by decide +kernel
theorem dX5_put_10 : decode cX5_put 10 = .ok (.getfield 9, 3) := by decide +kernel
theorem dX5_put_13 : decode cX5_put 13 = .ok (.aload_n 0, 1) := by decide +kernel
theorem dX5_put_14 : decode cX5_put 14 = .ok (.getfield 15, 3) := by decide +kernel
theorem dX5_put_17 : decode cX5_put 17 = .ok (.iload_n 1, 1) := by decide +kernel
theorem dX5_put_18 : decode cX5_put 18 = .ok (.iastore, 1) := by decide +kernel
theorem dX5_put_19 : decode cX5_put 19 = .ok (.aload_n 0, 1) := by decide +kernel
theorem dX5_put_20 : decode cX5_put 20 = .ok (.dup, 1) := by decide +kernel
theorem dX5_put_21 : decode cX5_put 21 = .ok (.getfield 15, 3) := by decide +kernel
theorem dX5_put_24 : decode cX5_put 24 = .ok (.iconst 1, 1) := by decide +kernel
theorem dX5_put_25 : decode cX5_put 25 = .ok (.iadd, 1) := by decide +kernel
theorem dX5_put_26 : decode cX5_put 26 = .ok (.putfield 15, 3) := by decide +kernel
theorem dX5_put_29 : decode cX5_put 29 = .ok (.return_, 1) := by decide +kernel
theorem dX5_directionOf_0 : decode cX5_directionOf 0 = .ok (.iload_n 0, 1) := by decide +kernel
theorem dX5_directionOf_1 : decode cX5_directionOf 1 = .ok (.lookupswitch 51 #[(101, 45), (110, 43), (115, 47), (119, 49)], 43) := by decide +kernel
theorem dX5_directionOf_44 : decode cX5_directionOf 44 = .ok (.iconst 0, 1) := by decide +kernel
theorem dX5_directionOf_45 : decode cX5_directionOf 45 = .ok (.ireturn, 1) := by decide +kernel
theorem dX5_directionOf_46 : decode cX5_directionOf 46 = .ok (.iconst 1, 1) := by decide +kernel
theorem dX5_directionOf_47 : decode cX5_directionOf 47 = .ok (.ireturn, 1) := by decide +kernel
theorem dX5_directionOf_48 : decode cX5_directionOf 48 = .ok (.iconst 2, 1) := by decide +kernel
theorem dX5_directionOf_49 : decode cX5_directionOf 49 = .ok (.ireturn, 1) := by decide +kernel
theorem dX5_directionOf_50 : decode cX5_directionOf 50 = .ok (.iconst 3, 1) := by decide +kernel
theorem dX5_directionOf_51 : decode cX5_directionOf 51 = .ok (.ireturn, 1) := by decide +kernel
theorem dX5_directionOf_52 : decode cX5_directionOf 52 = .ok (.iconst (-1), 1) := by decide +kernel
theorem dX5_directionOf_53 : decode cX5_directionOf 53 = .ok (.ireturn, 1) := by decide +kernel
set_option maxRecDepth 20000 in
theorem ggX5_dueBehind_X5_directionOf : GoodIn wsX5_dueBehind wsX5_directionOf := goodIn_r _ [4] (by decide +kernel) (by decide +kernel)
set_option maxRecDepth 20000 in
theorem gX5_dueBehind_X5_directionOf : GoodIn wsX5_dueBehind (va_wsS RX5 19 yX5_directionOf wsX5_directionOf) := goodIn_app (goodIn_of _ (by decide +kernel)) ggX5_dueBehind_X5_directionOf
theorem dX5_dueBehind_0 : decode cX5_dueBehind 0 = .ok (.iload_n 0, 1) := by decide +kernel
theorem dX5_dueBehind_1 : decode cX5_dueBehind 1 = .ok (.tableswitch 71 0 2 #[27, 45, 57], 27) := by decide +kernel
theorem dX5_dueBehind_28 : decode cX5_dueBehind 28 = .ok (.iload_n 1, 1) := by decide +kernel
theorem dX5_dueBehind_29 : decode cX5_dueBehind 29 = .ok (.bipush 48, 2) := by decide +kernel
theorem dX5_dueBehind_31 : decode cX5_dueBehind 31 = .ok (.if_icmp .lt 13, 3) := by decide +kernel
theorem dX5_dueBehind_34 : decode cX5_dueBehind 34 = .ok (.iload_n 1, 1) := by decide +kernel
theorem dX5_dueBehind_35 : decode cX5_dueBehind 35 = .ok (.bipush 51, 2) := by decide +kernel
theorem dX5_dueBehind_37 : decode cX5_dueBehind 37 = .ok (.if_icmp .gt 7, 3) := by decide +kernel
theorem dX5_dueBehind_40 : decode cX5_dueBehind 40 = .ok (.iconst 1, 1) := by decide +kernel
theorem dX5_dueBehind_41 : decode cX5_dueBehind 41 = .ok (.goto 4, 3) := by decide +kernel
theorem dX5_dueBehind_44 : decode cX5_dueBehind 44 = .ok (.iconst (-1), 1) := by decide +kernel
theorem dX5_dueBehind_45 : decode cX5_dueBehind 45 = .ok (.ireturn, 1) := by decide +kernel
theorem dX5_dueBehind_46 : decode cX5_dueBehind 46 = .ok (.iload_n 1, 1) := by decide +kernel
theorem dX5_dueBehind_47 : decode cX5_dueBehind 47 = .ok (.bipush 58, 2) := by decide +kernel
theorem dX5_dueBehind_49 : decode cX5_dueBehind 49 = .ok (.if_icmp .ne 7, 3) := by decide +kernel
theorem dX5_dueBehind_52 : decode cX5_dueBehind 52 = .ok (.iconst 2, 1) := by decide +kernel
theorem dX5_dueBehind_53 : decode cX5_dueBehind 53 = .ok (.goto 4, 3) := by decide +kernel
theorem dX5_dueBehind_56 : decode cX5_dueBehind 56 = .ok (.iconst (-1), 1) := by decide +kernel
theorem dX5_dueBehind_57 : decode cX5_dueBehind 57 = .ok (.ireturn, 1) := by decide +kernel
theorem dX5_dueBehind_58 : decode cX5_dueBehind 58 = .ok (.iload_n 1, 1) := by decide +kernel
theorem dX5_dueBehind_59 : decode cX5_dueBehind 59 = .ok (.invokestatic 19, 3) := by decide +kernel
theorem dX5_dueBehind_62 : decode cX5_dueBehind 62 = .ok (.iconst (-1), 1) := by decide +kernel
theorem dX5_dueBehind_63 : decode cX5_dueBehind 63 = .ok (.if_icmp .eq 7, 3) := by decide +kernel
theorem dX5_dueBehind_66 : decode cX5_dueBehind 66 = .ok (.iconst 3, 1) := by decide +kernel
theorem dX5_dueBehind_67 : decode cX5_dueBehind 67 = .ok (.goto 4, 3) := by decide +kernel
theorem dX5_dueBehind_70 : decode cX5_dueBehind 70 = .ok (.iconst (-1), 1) := by decide +kernel
theorem dX5_dueBehind_71 : decode cX5_dueBehind 71 = .ok (.ireturn, 1) := by decide +kernel
theorem dX5_dueBehind_72 : decode cX5_dueBehind 72 = .ok (.iload_n 1, 1) := by decide +kernel
theorem dX5_dueBehind_73 : decode cX5_dueBehind 73 = .ok (.bipush 59, 2) := by decide +kernel
theorem dX5_dueBehind_75 : decode cX5_dueBehind 75 = .ok (.if_icmp .ne 7, 3) := by decide +kernel
theorem dX5_dueBehind_78 : decode cX5_dueBehind 78 = .ok (.iconst 0, 1) := by decide +kernel
theorem dX5_dueBehind_79 : decode cX5_dueBehind 79 = .ok (.goto 16, 3) := by decide +kernel
theorem dX5_dueBehind_82 : decode cX5_dueBehind 82 = .ok (.iload_n 1, 1) := by decide +kernel
theorem dX5_dueBehind_83 : decode cX5_dueBehind 83 = .ok (.invokestatic 19, 3) := by decide +kernel
theorem dX5_dueBehind_86 : decode cX5_dueBehind 86 = .ok (.iconst (-1), 1) := by decide +kernel
theorem dX5_dueBehind_87 : decode cX5_dueBehind 87 = .ok (.if_icmp .eq 7, 3) := by decide +kernel
theorem dX5_dueBehind_90 : decode cX5_dueBehind 90 = .ok (.iconst 3, 1) := by decide +kernel
theorem dX5_dueBehind_91 : decode cX5_dueBehind 91 = .ok (.goto 4, 3) := by decide +kernel
theorem dX5_dueBehind_94 : decode cX5_dueBehind 94 = .ok (.iconst (-1), 1) := by decide +kernel
theorem dX5_dueBehind_95 : decode cX5_dueBehind 95 = .ok (.ireturn, 1) := by decide +kernel
set_option maxRecDepth 20000 in
theorem ggX5_firstFault_X5_dueBehind : GoodIn wsX5_firstFault wsX5_dueBehind := goodIn_r _ [6, 7, 8, 5, 9] (by decide +kernel) (by decide +kernel)
set_option maxRecDepth 20000 in
theorem gX5_firstFault_X5_dueBehind : GoodIn wsX5_firstFault (va_wsS RX5 23 yX5_dueBehind wsX5_dueBehind) := goodIn_app (goodIn_of _ (by decide +kernel)) ggX5_firstFault_X5_dueBehind
theorem dX5_firstFault_0 : decode cX5_firstFault 0 = .ok (.iconst 0, 1) := by decide +kernel
theorem dX5_firstFault_1 : decode cX5_firstFault 1 = .ok (.istore_n 1, 1) := by decide +kernel
theorem dX5_firstFault_2 : decode cX5_firstFault 2 = .ok (.iconst 0, 1) := by decide +kernel
theorem dX5_firstFault_3 : decode cX5_firstFault 3 = .ok (.istore_n 2, 1) := by decide +kernel
theorem dX5_firstFault_4 : decode cX5_firstFault 4 = .ok (.iload_n 2, 1) := by decide +kernel
theorem dX5_firstFault_5 : decode cX5_firstFault 5 = .ok (.aload_n 0, 1) := by decide +kernel
theorem dX5_firstFault_6 : decode cX5_firstFault 6 = .ok (.getfield 15, 3) := by decide +kernel
theorem dX5_firstFault_9 : decode cX5_firstFault 9 = .ok (.if_icmp .ge 27, 3) := by decide +kernel
theorem dX5_firstFault_12 : decode cX5_firstFault 12 = .ok (.iload_n 1, 1) := by decide +kernel
theorem dX5_firstFault_13 : decode cX5_firstFault 13 = .ok (.aload_n 0, 1) := by decide +kernel
theorem dX5_firstFault_14 : decode cX5_firstFault 14 = .ok (.getfield 9, 3) := by decide +kernel
theorem dX5_firstFault_17 : decode cX5_firstFault 17 = .ok (.iload_n 2, 1) := by decide +kernel
theorem dX5_firstFault_18 : decode cX5_firstFault 18 = .ok (.iaload, 1) := by decide +kernel
theorem dX5_firstFault_19 : decode cX5_firstFault 19 = .ok (.invokestatic 23, 3) := by decide +kernel
theorem dX5_firstFault_22 : decode cX5_firstFault 22 = .ok (.istore_n 1, 1) := by decide +kernel
theorem dX5_firstFault_23 : decode cX5_firstFault 23 = .ok (.iload_n 1, 1) := by decide +kernel
theorem dX5_firstFault_24 : decode cX5_firstFault 24 = .ok (.iconst (-1), 1) := by decide +kernel
theorem dX5_firstFault_25 : decode cX5_firstFault 25 = .ok (.if_icmp .ne 5, 3) := by decide +kernel
theorem dX5_firstFault_28 : decode cX5_firstFault 28 = .ok (.iload_n 2, 1) := by decide +kernel
theorem dX5_firstFault_29 : decode cX5_firstFault 29 = .ok (.ireturn, 1) := by decide +kernel
theorem dX5_firstFault_30 : decode cX5_firstFault 30 = .ok (.iinc 2 1, 3) := by decide +kernel
theorem dX5_firstFault_33 : decode cX5_firstFault 33 = .ok (.goto (-29), 3) := by decide +kernel
theorem dX5_firstFault_36 : decode cX5_firstFault 36 = .ok (.aload_n 0, 1) := by decide +kernel
theorem dX5_firstFault_37 : decode cX5_firstFault 37 = .ok (.getfield 15, 3) := by decide +kernel
theorem dX5_firstFault_40 : decode cX5_firstFault 40 = .ok (.ireturn, 1) := by decide +kernel
set_option maxRecDepth 20000 in
theorem ggX5_isComplete_X5_dueBehind : GoodIn wsX5_isComplete wsX5_dueBehind := goodIn_r _ [6, 7, 8, 5, 9] (by decide +kernel) (by decide +kernel)
set_option maxRecDepth 20000 in
theorem gX5_isComplete_X5_dueBehind : GoodIn wsX5_isComplete (va_wsS RX5 23 yX5_dueBehind wsX5_dueBehind) := goodIn_app (goodIn_of _ (by decide +kernel)) ggX5_isComplete_X5_dueBehind
theorem dX5_isComplete_0 : decode cX5_isComplete 0 = .ok (.iconst 0, 1) := by decide +kernel
theorem dX5_isComplete_1 : decode cX5_isComplete 1 = .ok (.istore_n 1, 1) := by decide +kernel
theorem dX5_isComplete_2 : decode cX5_isComplete 2 = .ok (.iconst 0, 1) := by decide +kernel
theorem dX5_isComplete_3 : decode cX5_isComplete 3 = .ok (.istore_n 2, 1) := by decide +kernel
theorem dX5_isComplete_4 : decode cX5_isComplete 4 = .ok (.iload_n 2, 1) := by decide +kernel
theorem dX5_isComplete_5 : decode cX5_isComplete 5 = .ok (.aload_n 0, 1) := by decide +kernel
theorem dX5_isComplete_6 : decode cX5_isComplete 6 = .ok (.getfield 15, 3) := by decide +kernel
theorem dX5_isComplete_9 : decode cX5_isComplete 9 = .ok (.if_icmp .ge 25, 3) := by decide +kernel
theorem dX5_isComplete_12 : decode cX5_isComplete 12 = .ok (.iload_n 1, 1) := by decide +kernel
theorem dX5_isComplete_13 : decode cX5_isComplete 13 = .ok (.iconst (-1), 1) := by decide +kernel
theorem dX5_isComplete_14 : decode cX5_isComplete 14 = .ok (.if_icmp .eq 20, 3) := by decide +kernel
theorem dX5_isComplete_17 : decode cX5_isComplete 17 = .ok (.iload_n 1, 1) := by decide +kernel
theorem dX5_isComplete_18 : decode cX5_isComplete 18 = .ok (.aload_n 0, 1) := by decide +kernel
theorem dX5_isComplete_19 : decode cX5_isComplete 19 = .ok (.getfield 9, 3) := by decide +kernel
theorem dX5_isComplete_22 : decode cX5_isComplete 22 = .ok (.iload_n 2, 1) := by decide +kernel
theorem dX5_isComplete_23 : decode cX5_isComplete 23 = .ok (.iaload, 1) := by decide +kernel
theorem dX5_isComplete_24 : decode cX5_isComplete 24 = .ok (.invokestatic 23, 3) := by decide +kernel
theorem dX5_isComplete_27 : decode cX5_isComplete 27 = .ok (.istore_n 1, 1) := by decide +kernel
theorem dX5_isComplete_28 : decode cX5_isComplete 28 = .ok (.iinc 2 1, 3) := by decide +kernel
theorem dX5_isComplete_31 : decode cX5_isComplete 31 = .ok (.goto (-27), 3) := by decide +kernel
theorem dX5_isComplete_34 : decode cX5_isComplete 34 = .ok (.iload_n 1, 1) := by decide +kernel
theorem dX5_isComplete_35 : decode cX5_isComplete 35 = .ok (.iconst 3, 1) := by decide +kernel
theorem dX5_isComplete_36 : decode cX5_isComplete 36 = .ok (.if_icmp .ne 7, 3) := by decide +kernel
theorem dX5_isComplete_39 : decode cX5_isComplete 39 = .ok (.iconst 1, 1) := by decide +kernel
theorem dX5_isComplete_40 : decode cX5_isComplete 40 = .ok (.goto 4, 3) := by decide +kernel
theorem dX5_isComplete_43 : decode cX5_isComplete 43 = .ok (.iconst 0, 1) := by decide +kernel
theorem dX5_isComplete_44 : decode cX5_isComplete 44 = .ok (.ireturn, 1) := by decide +kernel
set_option maxRecDepth 20000 in
theorem ggX6_init_X3_init : GoodIn wsX6_init wsX3_init := goodIn_r _ [27, 28, 2, 3, 29, 30, 31, 71, 72, 73, 74] (by decide +kernel) (by decide +kernel)
set_option maxRecDepth 20000 in
theorem gX6_init_X3_init_n9 : GoodIn wsX6_init (wsX3_init) := ggX6_init_X3_init
set_option maxRecDepth 20000 in
theorem ggX6_init_X0_init : GoodIn wsX6_init wsX0_init := goodIn_r _ [34, 35, 2, 3, 36, 37, 38, 29, 39, 40, 41, 5, 6, 42, 43, 44, 45, 46, 47, 48, 26, 27, 28, 30, 31, 49, 50, 51, 52, 53, 54, 75, 76, 77, 78, 79, 80, 81, 82, 83, 84, 85, 86, 87, 88, 71, 72, 73, 74, 106, 107, 108, 109, 110, 111, 112] (by decide +kernel) (by decide +kernel)
set_option maxRecDepth 20000 in
theorem gX6_init_X0_init : GoodIn wsX6_init (wsX0_init) := ggX6_init_X0_init
set_option maxRecDepth 20000 in
theorem ggX6_init_X5_init : GoodIn wsX6_init wsX5_init := goodIn_r _ [56, 57, 2, 3, 29, 58, 98, 99] (by decide +kernel) (by decide +kernel)
set_option maxRecDepth 20000 in
theorem gX6_init_X5_init_n33 : GoodIn wsX6_init (wsX5_init) := ggX6_init_X5_init
set_option maxRecDepth 20000 in
theorem ggX6_init_X4_init : GoodIn wsX6_init wsX4_init := goodIn_r _ [60, 61, 2, 3, 29, 62, 63, 64, 65, 100, 101, 102, 103] (by decide +kernel) (by decide +kernel)
set_option maxRecDepth 20000 in
theorem gX6_init_X4_init_n40 : GoodIn wsX6_init (wsX4_init) := ggX6_init_X4_init
set_option maxRecDepth 20000 in
theorem ggX6_init_X2_init : GoodIn wsX6_init wsX2_init := goodIn_r _ [67, 68, 2, 3, 29, 69, 70, 104, 105] (by decide +kernel) (by decide +kernel)
set_option maxRecDepth 20000 in
theorem gX6_init_X2_init_n47 : GoodIn wsX6_init (wsX2_init) := ggX6_init_X2_init
theorem dX6_init_0 : decode cX6_init 0 = .ok (.aload_n 0, 1) := by decide +kernel
theorem dX6_init_1 : decode cX6_init 1 = .ok (.invokespecial 1, 3) := by decide +kernel
theorem dX6_init_4 : decode cX6_init 4 = .ok (.new 7, 3) := by decide +kernel
theorem dX6_init_7 : decode cX6_init 7 = .ok (.dup, 1) := by decide +kernel
theorem dX6_init_8 : decode cX6_init 8 = .ok (.invokespecial 9, 3) := by decide +kernel
theorem dX6_init_11 : decode cX6_init 11 = .ok (.astore_n 1, 1) := by decide +kernel
theorem dX6_init_12 : decode cX6_init 12 = .ok (.aload_n 0, 1) := by decide +kernel
theorem dX6_init_13 : decode cX6_init 13 = .ok (.new 10, 3) := by decide +kernel
theorem dX6_init_16 : decode cX6_init 16 = .ok (.dup, 1) := by decide +kernel
theorem dX6_init_17 : decode cX6_init 17 = .ok (.aload_n 1, 1) := by decide +kernel
theorem dX6_init_18 : decode cX6_init 18 = .ok (.invokespecial 12, 3) := by decide +kernel
theorem dX6_init_21 : decode cX6_init 21 = .ok (.putfield 15, 3) := by decide +kernel
theorem dX6_init_24 : decode cX6_init 24 = .ok (.aload_n 0, 1) := by decide +kernel
theorem dX6_init_25 : decode cX6_init 25 = .ok (.new 10, 3) := by decide +kernel
theorem dX6_init_28 : decode cX6_init 28 = .ok (.dup, 1) := by decide +kernel
theorem dX6_init_29 : decode cX6_init 29 = .ok (.aload_n 1, 1) := by decide +kernel
theorem dX6_init_30 : decode cX6_init 30 = .ok (.invokespecial 12, 3) := by decide +kernel
theorem dX6_init_33 : decode cX6_init 33 = .ok (.putfield 21, 3) := by decide +kernel
theorem dX6_init_36 : decode cX6_init 36 = .ok (.aload_n 0, 1) := by decide +kernel
theorem dX6_init_37 : decode cX6_init 37 = .ok (.new 10, 3) := by decide +kernel
theorem dX6_init_40 : decode cX6_init 40 = .ok (.dup, 1) := by decide +kernel
theorem dX6_init_41 : decode cX6_init 41 = .ok (.aload_n 1, 1) := by decide +kernel
theorem dX6_init_42 : decode cX6_init 42 = .ok (.invokespecial 12, 3) := by decide +kernel
theorem dX6_init_45 : decode cX6_init 45 = .ok (.putfield 24, 3) := by decide +kernel
theorem dX6_init_48 : decode cX6_init 48 = .ok (.aload_n 0, 1) := by decide +kernel
theorem dX6_init_49 : decode cX6_init 49 = .ok (.bipush 6, 2) := by decide +kernel
theorem dX6_init_51 : decode cX6_init 51 = .ok (.anewarray 10, 3) := by decide +kernel
theorem dX6_init_54 : decode cX6_init 54 = .ok (.putfield 27, 3) := by decide +kernel
theorem dX6_init_57 : decode cX6_init 57 = .ok (.iconst 0, 1) := by decide +kernel
theorem dX6_init_58 : decode cX6_init 58 = .ok (.istore_n 2, 1) := by decide +kernel
theorem dX6_init_59 : decode cX6_init 59 = .ok (.iload_n 2, 1) := by decide +kernel
theorem dX6_init_60 : decode cX6_init 60 = .ok (.bipush 6, 2) := by decide +kernel
theorem dX6_init_62 : decode cX6_init 62 = .ok (.if_icmp .ge 23, 3) := by decide +kernel
theorem dX6_init_65 : decode cX6_init 65 = .ok (.aload_n 0, 1) := by decide +kernel
theorem dX6_init_66 : decode cX6_init 66 = .ok (.getfield 27, 3) := by decide +kernel
theorem dX6_init_69 : decode cX6_init 69 = .ok (.iload_n 2, 1) := by decide +kernel
theorem dX6_init_70 : decode cX6_init 70 = .ok (.new 10, 3) := by decide +kernel
theorem dX6_init_73 : decode cX6_init 73 = .ok (.dup, 1) := by decide +kernel
theorem dX6_init_74 : decode cX6_init 74 = .ok (.aload_n 1, 1) := by decide +kernel
theorem dX6_init_75 : decode cX6_init 75 = .ok (.invokespecial 12, 3) := by decide +kernel
theorem dX6_init_78 : decode cX6_init 78 = .ok (.aastore, 1) := by decide +kernel
theorem dX6_init_79 : decode cX6_init 79 = .ok (.iinc 2 1, 3) := by decide +kernel
theorem dX6_init_82 : decode cX6_init 82 = .ok (.goto (-23), 3) := by decide +kernel
theorem dX6_init_85 : decode cX6_init 85 = .ok (.aload_n 0, 1) := by decide +kernel
theorem dX6_init_86 : decode cX6_init 86 = .ok (.new 31, 3) := by decide +kernel
theorem dX6_init_89 : decode cX6_init 89 = .ok (.dup, 1) := by decide +kernel
theorem dX6_init_90 : decode cX6_init 90 = .ok (.invokespecial 33, 3) := by decide +kernel
theorem dX6_init_93 : decode cX6_init 93 = .ok (.putfield 34, 3) := by decide +kernel
theorem dX6_init_96 : decode cX6_init 96 = .ok (.aload_n 0, 1) := by decide +kernel
theorem dX6_init_97 : decode cX6_init 97 = .ok (.new 38, 3) := by decide +kernel
theorem dX6_init_100 : decode cX6_init 100 = .ok (.dup, 1) := by decide +kernel
theorem dX6_init_101 : decode cX6_init 101 = .ok (.invokespecial 40, 3) := by decide +kernel
theorem dX6_init_104 : decode cX6_init 104 = .ok (.putfield 41, 3) := by decide +kernel
theorem dX6_init_107 : decode cX6_init 107 = .ok (.aload_n 0, 1) := by decide +kernel
theorem dX6_init_108 : decode cX6_init 108 = .ok (.new 45, 3) := by decide +kernel
theorem dX6_init_111 : decode cX6_init 111 = .ok (.dup, 1) := by decide +kernel
theorem dX6_init_112 : decode cX6_init 112 = .ok (.invokespecial 47, 3) := by decide +kernel
theorem dX6_init_115 : decode cX6_init 115 = .ok (.putfield 48, 3) := by decide +kernel
theorem dX6_init_118 : decode cX6_init 118 = .ok (.return_, 1) := by decide +kernel
set_option maxRecDepth 20000 in
theorem ggX6_mole_X6_checkTuft : GoodIn wsX6_mole wsX6_checkTuft := goodIn_ca (goodIn_r _ [10, 11, 12] (by decide +kernel) (by decide +kernel)) (goodIn_sub (fun _ h => List.mem_cons_of_mem _ (List.mem_append_right _ h)) (by decide +kernel))
set_option maxRecDepth 20000 in
theorem gX6_mole_X6_checkTuft : GoodIn wsX6_mole (wsV RX6 52 RX6 yX6_checkTuft wsX6_checkTuft) := goodIn_app (goodIn_of _ (by decide +kernel)) ggX6_mole_X6_checkTuft
set_option maxRecDepth 20000 in
theorem ggX6_mole_X6_saveState : GoodIn wsX6_mole wsX6_saveState := goodIn_r _ [16, 17, 18, 3, 19, 20, 21, 22, 23, 24, 25, 26, 27, 28, 29, 30, 31, 32, 33, 34, 35, 36, 37, 38, 39, 40, 41, 42, 43, 44, 45, 46, 47, 48, 49, 50, 51, 52, 53, 54, 55, 56, 57, 58, 59, 60, 61, 62, 120, 121, 122, 123, 124, 125, 126, 127, 128, 129, 130, 131, 132, 133, 134, 135, 136, 137, 138, 139, 140, 141, 142, 143, 144, 145, 146, 147, 148, 149, 150, 151, 152, 153] (by decide +kernel) (by decide +kernel)
set_option maxRecDepth 20000 in
theorem gX6_mole_X6_saveState : GoodIn wsX6_mole (wsV RX6 71 RX6 yX6_saveState wsX6_saveState) := goodIn_app (goodIn_of _ (by decide +kernel)) ggX6_mole_X6_saveState
set_option maxRecDepth 20000 in
theorem ggX6_mole_X0_welcome : GoodIn wsX6_mole wsX0_welcome := goodIn_r _ [66, 33, 34, 67, 35, 68, 69, 70, 71, 72, 22, 73, 24, 39, 32, 74, 75, 76, 77, 78, 79, 80, 81, 82, 83, 84, 44, 85, 46, 47, 86, 87, 88, 89, 48, 90, 91, 92, 93, 50, 94, 95, 96, 97, 98, 99, 100, 101, 102, 103, 49, 26, 27, 28, 104, 105, 106, 107, 41, 42, 43, 45, 108, 109, 110, 54, 111, 57, 62, 112, 113, 114, 115, 116, 117, 118, 119, 129, 130, 131, 132, 133, 134, 135, 136, 137, 138, 139, 140, 141, 142, 147, 148, 149, 150, 151, 152, 153, 143, 144, 145, 146] (by decide +kernel) (by decide +kernel)
set_option maxRecDepth 20000 in
theorem gX6_mole_X0_welcome : GoodIn wsX6_mole (wsV RX6 74 RX0 yX0_welcome wsX0_welcome) := goodIn_app (goodIn_of _ (by decide +kernel)) ggX6_mole_X0_welcome
theorem dX6_mole_0 : decode cX6_mole 0 = .ok (.aload_n 0, 1) := by decide +kernel
theorem dX6_mole_1 : decode cX6_mole 1 = .ok (.iload_n 1, 1) := by decide +kernel
theorem dX6_mole_2 : decode cX6_mole 2 = .ok (.invokevirtual 52, 3) := by decide +kernel
theorem dX6_mole_5 : decode cX6_mole 5 = .ok (.aload_n 0, 1) := by decide +kernel
theorem dX6_mole_6 : decode cX6_mole 6 = .ok (.getfield 15, 3) := by decide +kernel
theorem dX6_mole_9 : decode cX6_mole 9 = .ok (.getfield 56, 3) := by decide +kernel
theorem dX6_mole_12 : decode cX6_mole 12 = .ok (.iconst 4, 1) := by decide +kernel
theorem dX6_mole_13 : decode cX6_mole 13 = .ok (.if_icmp .ge 15, 3) := by decide +kernel
theorem dX6_mole_16 : decode cX6_mole 16 = .ok (.aload_n 0, 1) := by decide +kernel
theorem dX6_mole_17 : decode cX6_mole 17 = .ok (.getfield 15, 3) := by decide +kernel
theorem dX6_mole_20 : decode cX6_mole 20 = .ok (.getfield 60, 3) := by decide +kernel
theorem dX6_mole_23 : decode cX6_mole 23 = .ok (.iload_n 1, 1) := by decide +kernel
theorem dX6_mole_24 : decode cX6_mole 24 = .ok (.iaload, 1) := by decide +kernel
theorem dX6_mole_25 : decode cX6_mole 25 = .ok (.ifCond .le 13, 3) := by decide +kernel
theorem dX6_mole_28 : decode cX6_mole 28 = .ok (.new 64, 3) := by decide +kernel
theorem dX6_mole_31 : decode cX6_mole 31 = .ok (.dup, 1) := by decide +kernel
theorem dX6_mole_32 : decode cX6_mole 32 = .ok (.ldc 66, 2) := by decide +kernel
theorem dX6_mole_34 : decode cX6_mole 34 = .ok (.invokespecial 68, 3) := by decide +kernel
theorem dX6_mole_37 : decode cX6_mole 37 = .ok (.athrow, 1) := by decide +kernel
theorem dX6_mole_38 : decode cX6_mole 38 = .ok (.aload_n 0, 1) := by decide +kernel
theorem dX6_mole_39 : decode cX6_mole 39 = .ok (.invokevirtual 71, 3) := by decide +kernel
theorem dX6_mole_42 : decode cX6_mole 42 = .ok (.aload_n 0, 1) := by decide +kernel
theorem dX6_mole_43 : decode cX6_mole 43 = .ok (.getfield 15, 3) := by decide +kernel
theorem dX6_mole_46 : decode cX6_mole 46 = .ok (.iload_n 1, 1) := by decide +kernel
theorem dX6_mole_47 : decode cX6_mole 47 = .ok (.invokevirtual 74, 3) := by decide +kernel
theorem dX6_mole_50 : decode cX6_mole 50 = .ok (.ireturn, 1) := by decide +kernel
set_option maxRecDepth 20000 in
theorem ggX6_plan_X6_checkMole : GoodIn wsX6_plan wsX6_checkMole := goodIn_ca (goodIn_r _ [12, 13, 14, 5, 15, 70, 71, 72, 73, 74, 75, 76, 77, 78, 79, 80, 81, 82, 83, 84, 85, 86, 87, 88, 89, 90, 91, 92] (by decide +kernel) (by decide +kernel)) (goodIn_sub (fun _ h => List.mem_cons_of_mem _ (List.mem_append_right _ h)) (by decide +kernel))
set_option maxRecDepth 20000 in
theorem gX6_plan_X6_checkMole : GoodIn wsX6_plan (wsV RX6 78 RX6 yX6_checkMole wsX6_checkMole) := goodIn_app (goodIn_of _ (by decide +kernel)) ggX6_plan_X6_checkMole
set_option maxRecDepth 20000 in
theorem ggX6_plan_X6_saveState : GoodIn wsX6_plan wsX6_saveState := goodIn_r _ [19, 20, 21, 5, 22, 23, 24, 25, 26, 27, 28, 29, 30, 31, 32, 33, 34, 35, 36, 37, 38, 39, 40, 41, 42, 43, 44, 45, 46, 47, 48, 49, 50, 51, 52, 53, 54, 55, 56, 57, 58, 59, 60, 61, 62, 63, 64, 65, 70, 71, 72, 73, 74, 75, 76, 77, 78, 79, 80, 81, 82, 83, 84, 85, 86, 87, 88, 89, 90, 91, 92, 100, 101, 102, 103, 93, 94, 95, 96, 97, 98, 99] (by decide +kernel) (by decide +kernel)
set_option maxRecDepth 20000 in
theorem gX6_plan_X6_saveState : GoodIn wsX6_plan (wsV RX6 71 RX6 yX6_saveState wsX6_saveState) := goodIn_app (goodIn_of _ (by decide +kernel)) ggX6_plan_X6_saveState
set_option maxRecDepth 20000 in
theorem ggX6_plan_X1_addDirection : GoodIn wsX6_plan wsX1_addDirection := goodIn_r _ [69, 59, 63, 93, 94, 95, 96, 97, 98, 99] (by decide +kernel) (by decide +kernel)
set_option maxRecDepth 20000 in
theorem gX6_plan_X1_addDirection : GoodIn wsX6_plan (wsV RX6 97 RX1 yX1_addDirection wsX1_addDirection) := goodIn_app (goodIn_of _ (by decide +kernel)) ggX6_plan_X1_addDirection
theorem dX6_plan_0 : decode cX6_plan 0 = .ok (.aload_n 0, 1) := by decide +kernel
theorem dX6_plan_1 : decode cX6_plan 1 = .ok (.iload_n 1, 1) := by decide +kernel
theorem dX6_plan_2 : decode cX6_plan 2 = .ok (.invokevirtual 78, 3) := by decide +kernel
theorem dX6_plan_5 : decode cX6_plan 5 = .ok (.iload_n 2, 1) := by decide +kernel
theorem dX6_plan_6 : decode cX6_plan 6 = .ok (.ifCond .lt 8, 3) := by decide +kernel
theorem dX6_plan_9 : decode cX6_plan 9 = .ok (.iload_n 2, 1) := by decide +kernel
theorem dX6_plan_10 : decode cX6_plan 10 = .ok (.iconst 3, 1) := by decide +kernel
theorem dX6_plan_11 : decode cX6_plan 11 = .ok (.if_icmp .le 13, 3) := by decide +kernel
theorem dX6_plan_14 : decode cX6_plan 14 = .ok (.new 81, 3) := by decide +kernel
theorem dX6_plan_17 : decode cX6_plan 17 = .ok (.dup, 1) := by decide +kernel
theorem dX6_plan_18 : decode cX6_plan 18 = .ok (.ldc 83, 2) := by decide +kernel
theorem dX6_plan_20 : decode cX6_plan 20 = .ok (.invokespecial 85, 3) := by decide +kernel
theorem dX6_plan_23 : decode cX6_plan 23 = .ok (.athrow, 1) := by decide +kernel
theorem dX6_plan_24 : decode cX6_plan 24 = .ok (.aload_n 0, 1) := by decide +kernel
theorem dX6_plan_25 : decode cX6_plan 25 = .ok (.getfield 15, 3) := by decide +kernel
theorem dX6_plan_28 : decode cX6_plan 28 = .ok (.getfield 86, 3) := by decide +kernel
theorem dX6_plan_31 : decode cX6_plan 31 = .ok (.iload_n 1, 1) := by decide +kernel
theorem dX6_plan_32 : decode cX6_plan 32 = .ok (.aaload, 1) := by decide +kernel
theorem dX6_plan_33 : decode cX6_plan 33 = .ok (.getfield 90, 3) := by decide +kernel
theorem dX6_plan_36 : decode cX6_plan 36 = .ok (.bipush 20, 2) := by decide +kernel
theorem dX6_plan_38 : decode cX6_plan 38 = .ok (.if_icmp .lt 13, 3) := by decide +kernel
theorem dX6_plan_41 : decode cX6_plan 41 = .ok (.new 64, 3) := by decide +kernel
theorem dX6_plan_44 : decode cX6_plan 44 = .ok (.dup, 1) := by decide +kernel
theorem dX6_plan_45 : decode cX6_plan 45 = .ok (.ldc 95, 2) := by decide +kernel
theorem dX6_plan_47 : decode cX6_plan 47 = .ok (.invokespecial 68, 3) := by decide +kernel
theorem dX6_plan_50 : decode cX6_plan 50 = .ok (.athrow, 1) := by decide +kernel
theorem dX6_plan_51 : decode cX6_plan 51 = .ok (.aload_n 0, 1) := by decide +kernel
theorem dX6_plan_52 : decode cX6_plan 52 = .ok (.invokevirtual 71, 3) := by decide +kernel
theorem dX6_plan_55 : decode cX6_plan 55 = .ok (.aload_n 0, 1) := by decide +kernel
theorem dX6_plan_56 : decode cX6_plan 56 = .ok (.getfield 15, 3) := by decide +kernel
theorem dX6_plan_59 : decode cX6_plan 59 = .ok (.getfield 86, 3) := by decide +kernel
theorem dX6_plan_62 : decode cX6_plan 62 = .ok (.iload_n 1, 1) := by decide +kernel
theorem dX6_plan_63 : decode cX6_plan 63 = .ok (.aaload, 1) := by decide +kernel
theorem dX6_plan_64 : decode cX6_plan 64 = .ok (.iload_n 2, 1) := by decide +kernel
theorem dX6_plan_65 : decode cX6_plan 65 = .ok (.invokevirtual 97, 3) := by decide +kernel
theorem dX6_plan_68 : decode cX6_plan 68 = .ok (.aload_n 0, 1) := by decide +kernel
theorem dX6_plan_69 : decode cX6_plan 69 = .ok (.getfield 15, 3) := by decide +kernel
theorem dX6_plan_72 : decode cX6_plan 72 = .ok (.getfield 86, 3) := by decide +kernel
theorem dX6_plan_75 : decode cX6_plan 75 = .ok (.iload_n 1, 1) := by decide +kernel
theorem dX6_plan_76 : decode cX6_plan 76 = .ok (.aaload, 1) := by decide +kernel
theorem dX6_plan_77 : decode cX6_plan 77 = .ok (.getfield 90, 3) := by decide +kernel
theorem dX6_plan_80 : decode cX6_plan 80 = .ok (.ireturn, 1) := by decide +kernel
set_option maxRecDepth 20000 in
theorem ggX6_rest_X6_checkMole : GoodIn wsX6_rest wsX6_checkMole := goodIn_ca (goodIn_r _ [8, 9, 10, 1, 11, 62, 63, 64, 65, 66, 67, 68, 69, 70, 71, 72, 73, 74, 75, 76, 77, 78, 79, 80, 81, 82, 83, 84] (by decide +kernel) (by decide +kernel)) (goodIn_sub (fun _ h => List.mem_cons_of_mem _ (List.mem_append_right _ h)) (by decide +kernel))
set_option maxRecDepth 20000 in
theorem gX6_rest_X6_checkMole : GoodIn wsX6_rest (wsV RX6 78 RX6 yX6_checkMole wsX6_checkMole) := goodIn_app (goodIn_of _ (by decide +kernel)) ggX6_rest_X6_checkMole
set_option maxRecDepth 20000 in
theorem ggX6_rest_X6_saveState : GoodIn wsX6_rest wsX6_saveState := goodIn_r _ [15, 16, 17, 1, 18, 19, 20, 21, 22, 23, 24, 25, 26, 27, 28, 29, 30, 31, 32, 33, 34, 35, 36, 37, 38, 39, 40, 41, 42, 43, 44, 45, 46, 47, 48, 49, 50, 51, 52, 53, 54, 55, 56, 57, 58, 59, 60, 61, 62, 63, 64, 65, 66, 67, 68, 69, 70, 71, 72, 73, 74, 75, 76, 77, 78, 79, 80, 81, 82, 83, 84, 92, 93, 94, 95, 85, 86, 87, 88, 89, 90, 91] (by decide +kernel) (by decide +kernel)
set_option maxRecDepth 20000 in
theorem gX6_rest_X6_saveState : GoodIn wsX6_rest (wsV RX6 71 RX6 yX6_saveState wsX6_saveState) := goodIn_app (goodIn_of _ (by decide +kernel)) ggX6_rest_X6_saveState
theorem dX6_rest_0 : decode cX6_rest 0 = .ok (.aload_n 0, 1) := by decide +kernel
theorem dX6_rest_1 : decode cX6_rest 1 = .ok (.iload_n 1, 1) := by decide +kernel
theorem dX6_rest_2 : decode cX6_rest 2 = .ok (.invokevirtual 78, 3) := by decide +kernel
theorem dX6_rest_5 : decode cX6_rest 5 = .ok (.aload_n 0, 1) := by decide +kernel
theorem dX6_rest_6 : decode cX6_rest 6 = .ok (.invokevirtual 71, 3) := by decide +kernel
theorem dX6_rest_9 : decode cX6_rest 9 = .ok (.aload_n 0, 1) := by decide +kernel
theorem dX6_rest_10 : decode cX6_rest 10 = .ok (.getfield 15, 3) := by decide +kernel
theorem dX6_rest_13 : decode cX6_rest 13 = .ok (.getfield 86, 3) := by decide +kernel
theorem dX6_rest_16 : decode cX6_rest 16 = .ok (.iload_n 1, 1) := by decide +kernel
theorem dX6_rest_17 : decode cX6_rest 17 = .ok (.aaload, 1) := by decide +kernel
theorem dX6_rest_18 : decode cX6_rest 18 = .ok (.getfield 90, 3) := by decide +kernel
theorem dX6_rest_21 : decode cX6_rest 21 = .ok (.istore_n 2, 1) := by decide +kernel
theorem dX6_rest_22 : decode cX6_rest 22 = .ok (.aload_n 0, 1) := by decide +kernel
theorem dX6_rest_23 : decode cX6_rest 23 = .ok (.getfield 15, 3) := by decide +kernel
theorem dX6_rest_26 : decode cX6_rest 26 = .ok (.getfield 86, 3) := by decide +kernel
theorem dX6_rest_29 : decode cX6_rest 29 = .ok (.iload_n 1, 1) := by decide +kernel
theorem dX6_rest_30 : decode cX6_rest 30 = .ok (.aaload, 1) := by decide +kernel
theorem dX6_rest_31 : decode cX6_rest 31 = .ok (.iconst 0, 1) := by decide +kernel
theorem dX6_rest_32 : decode cX6_rest 32 = .ok (.putfield 90, 3) := by decide +kernel
theorem dX6_rest_35 : decode cX6_rest 35 = .ok (.iload_n 2, 1) := by decide +kernel
theorem dX6_rest_36 : decode cX6_rest 36 = .ok (.ireturn, 1) := by decide +kernel
set_option maxRecDepth 20000 in
theorem ggX6_pass_X6_checkBeats : GoodIn wsX6_pass wsX6_checkBeats := goodIn_ca (goodIn_r _ [7, 8, 9] (by decide +kernel) (by decide +kernel)) (goodIn_sub (fun _ h => List.mem_cons_of_mem _ (List.mem_append_right _ h)) (by decide +kernel))
set_option maxRecDepth 20000 in
theorem gX6_pass_X6_checkBeats : GoodIn wsX6_pass (wsV RX6 100 RX6 yX6_checkBeats wsX6_checkBeats) := goodIn_app (goodIn_of _ (by decide +kernel)) ggX6_pass_X6_checkBeats
set_option maxRecDepth 20000 in
theorem ggX6_pass_X6_saveState : GoodIn wsX6_pass wsX6_saveState := goodIn_r _ [13, 14, 15, 1, 16, 17, 18, 19, 20, 21, 22, 23, 24, 25, 26, 27, 28, 29, 30, 31, 32, 33, 34, 35, 36, 37, 38, 39, 40, 41, 42, 43, 44, 45, 46, 47, 48, 49, 50, 51, 52, 53, 54, 55, 56, 57, 58, 59, 148, 149, 150, 151, 152, 153, 154, 155, 156, 157, 158, 159, 160, 161, 162, 163, 164, 165, 166, 167, 168, 169, 170, 171, 172, 173, 174, 175, 176, 177, 178, 179, 180, 181] (by decide +kernel) (by decide +kernel)
set_option maxRecDepth 20000 in
theorem gX6_pass_X6_saveState : GoodIn wsX6_pass (wsV RX6 71 RX6 yX6_saveState wsX6_saveState) := goodIn_app (goodIn_of _ (by decide +kernel)) ggX6_pass_X6_saveState
set_option maxRecDepth 20000 in
theorem ggX6_pass_X0_beat : GoodIn wsX6_pass wsX0_beat := goodIn_r _ [63, 33, 28, 30, 64, 65, 66, 19, 67, 31, 68, 69, 70, 27, 35, 21, 32, 71, 72, 73, 51, 74, 59, 54, 75, 6, 76, 77, 78, 79, 80, 81, 82, 83, 84, 85, 53, 57, 86, 87, 88, 89, 56, 90, 91, 92, 93, 34, 94, 95, 96, 97, 29, 98, 99, 100, 101, 102, 103, 104, 105, 41, 106, 44, 47, 45, 43, 46, 23, 24, 25, 107, 108, 109, 110, 111, 112, 113, 114, 36, 115, 116, 117, 118, 119, 120, 121, 122, 123, 124, 125, 126, 127, 128, 129, 130, 131, 132, 133, 134, 135, 136, 137, 138, 139, 140, 141, 142, 143, 38, 39, 40, 42, 144, 145, 146, 147, 157, 158, 159, 160, 161, 162, 163, 164, 165, 166, 167, 168, 169, 170, 175, 176, 177, 178, 179, 180, 181, 171, 172, 173, 174] (by decide +kernel) (by decide +kernel)
set_option maxRecDepth 20000 in
theorem gX6_pass_X0_beat : GoodIn wsX6_pass (wsV RX6 106 RX0 yX0_beat wsX0_beat) := goodIn_app (goodIn_of _ (by decide +kernel)) ggX6_pass_X0_beat
theorem dX6_pass_0 : decode cX6_pass 0 = .ok (.aload_n 0, 1) := by decide +kernel
theorem dX6_pass_1 : decode cX6_pass 1 = .ok (.iload_n 1, 1) := by decide +kernel
theorem dX6_pass_2 : decode cX6_pass 2 = .ok (.invokevirtual 100, 3) := by decide +kernel
theorem dX6_pass_5 : decode cX6_pass 5 = .ok (.aload_n 0, 1) := by decide +kernel
theorem dX6_pass_6 : decode cX6_pass 6 = .ok (.invokevirtual 71, 3) := by decide +kernel
theorem dX6_pass_9 : decode cX6_pass 9 = .ok (.aload_n 0, 1) := by decide +kernel
theorem dX6_pass_10 : decode cX6_pass 10 = .ok (.getfield 15, 3) := by decide +kernel
theorem dX6_pass_13 : decode cX6_pass 13 = .ok (.getfield 103, 3) := by decide +kernel
theorem dX6_pass_16 : decode cX6_pass 16 = .ok (.istore_n 2, 1) := by decide +kernel
theorem dX6_pass_17 : decode cX6_pass 17 = .ok (.iconst 0, 1) := by decide +kernel
theorem dX6_pass_18 : decode cX6_pass 18 = .ok (.istore_n 3, 1) := by decide +kernel
theorem dX6_pass_19 : decode cX6_pass 19 = .ok (.iload_n 3, 1) := by decide +kernel
theorem dX6_pass_20 : decode cX6_pass 20 = .ok (.iload_n 1, 1) := by decide +kernel
theorem dX6_pass_21 : decode cX6_pass 21 = .ok (.if_icmp .ge 16, 3) := by decide +kernel
theorem dX6_pass_24 : decode cX6_pass 24 = .ok (.aload_n 0, 1) := by decide +kernel
theorem dX6_pass_25 : decode cX6_pass 25 = .ok (.getfield 15, 3) := by decide +kernel
theorem dX6_pass_28 : decode cX6_pass 28 = .ok (.invokevirtual 106, 3) := by decide +kernel
theorem dX6_pass_31 : decode cX6_pass 31 = .ok (.iinc 3 1, 3) := by decide +kernel
theorem dX6_pass_34 : decode cX6_pass 34 = .ok (.goto (-15), 3) := by decide +kernel
theorem dX6_pass_37 : decode cX6_pass 37 = .ok (.aload_n 0, 1) := by decide +kernel
theorem dX6_pass_38 : decode cX6_pass 38 = .ok (.getfield 15, 3) := by decide +kernel
theorem dX6_pass_41 : decode cX6_pass 41 = .ok (.getfield 103, 3) := by decide +kernel
theorem dX6_pass_44 : decode cX6_pass 44 = .ok (.iload_n 2, 1) := by decide +kernel
theorem dX6_pass_45 : decode cX6_pass 45 = .ok (.isub, 1) := by decide +kernel
theorem dX6_pass_46 : decode cX6_pass 46 = .ok (.ireturn, 1) := by decide +kernel
set_option maxRecDepth 20000 in
theorem ggX6_root_X6_checkTuft : GoodIn wsX6_root wsX6_checkTuft := goodIn_ca (goodIn_r _ [9, 10, 11] (by decide +kernel) (by decide +kernel)) (goodIn_sub (fun _ h => List.mem_cons_of_mem _ (List.mem_append_right _ h)) (by decide +kernel))
set_option maxRecDepth 20000 in
theorem gX6_root_X6_checkTuft : GoodIn wsX6_root (wsV RX6 52 RX6 yX6_checkTuft wsX6_checkTuft) := goodIn_app (goodIn_of _ (by decide +kernel)) ggX6_root_X6_checkTuft
set_option maxRecDepth 20000 in
theorem ggX6_root_X6_saveState : GoodIn wsX6_root wsX6_saveState := goodIn_r _ [15, 16, 17, 3, 18, 19, 20, 21, 22, 23, 24, 25, 26, 27, 28, 29, 30, 31, 32, 33, 34, 35, 36, 37, 38, 39, 40, 41, 42, 43, 44, 45, 46, 47, 48, 49, 50, 51, 52, 53, 54, 55, 56, 57, 58, 59, 60, 61, 62, 63, 64, 65, 66, 67, 68, 69, 70, 71, 72, 73, 74, 75, 76, 77, 78, 79, 80, 81, 82, 83, 84, 85, 86, 87, 88, 89, 90, 91, 92, 93, 94, 95] (by decide +kernel) (by decide +kernel)
set_option maxRecDepth 20000 in
theorem gX6_root_X6_saveState : GoodIn wsX6_root (wsV RX6 71 RX6 yX6_saveState wsX6_saveState) := goodIn_app (goodIn_of _ (by decide +kernel)) ggX6_root_X6_saveState
theorem dX6_root_0 : decode cX6_root 0 = .ok (.aload_n 0, 1) := by decide +kernel
theorem dX6_root_1 : decode cX6_root 1 = .ok (.iload_n 1, 1) := by decide +kernel
theorem dX6_root_2 : decode cX6_root 2 = .ok (.invokevirtual 52, 3) := by decide +kernel
theorem dX6_root_5 : decode cX6_root 5 = .ok (.iload_n 2, 1) := by decide +kernel
theorem dX6_root_6 : decode cX6_root 6 = .ok (.ifCond .lt 9, 3) := by decide +kernel
theorem dX6_root_9 : decode cX6_root 9 = .ok (.iload_n 2, 1) := by decide +kernel
theorem dX6_root_10 : decode cX6_root 10 = .ok (.bipush 9, 2) := by decide +kernel
theorem dX6_root_12 : decode cX6_root 12 = .ok (.if_icmp .le 13, 3) := by decide +kernel
theorem dX6_root_15 : decode cX6_root 15 = .ok (.new 81, 3) := by decide +kernel
theorem dX6_root_18 : decode cX6_root 18 = .ok (.dup, 1) := by decide +kernel
theorem dX6_root_19 : decode cX6_root 19 = .ok (.ldc 109, 2) := by decide +kernel
theorem dX6_root_21 : decode cX6_root 21 = .ok (.invokespecial 85, 3) := by decide +kernel
theorem dX6_root_24 : decode cX6_root 24 = .ok (.athrow, 1) := by decide +kernel
theorem dX6_root_25 : decode cX6_root 25 = .ok (.aload_n 0, 1) := by decide +kernel
theorem dX6_root_26 : decode cX6_root 26 = .ok (.invokevirtual 71, 3) := by decide +kernel
theorem dX6_root_29 : decode cX6_root 29 = .ok (.aload_n 0, 1) := by decide +kernel
theorem dX6_root_30 : decode cX6_root 30 = .ok (.getfield 15, 3) := by decide +kernel
theorem dX6_root_33 : decode cX6_root 33 = .ok (.getfield 60, 3) := by decide +kernel
theorem dX6_root_36 : decode cX6_root 36 = .ok (.iload_n 1, 1) := by decide +kernel
theorem dX6_root_37 : decode cX6_root 37 = .ok (.iaload, 1) := by decide +kernel
theorem dX6_root_38 : decode cX6_root 38 = .ok (.istore_n 3, 1) := by decide +kernel
theorem dX6_root_39 : decode cX6_root 39 = .ok (.aload_n 0, 1) := by decide +kernel
theorem dX6_root_40 : decode cX6_root 40 = .ok (.getfield 15, 3) := by decide +kernel
theorem dX6_root_43 : decode cX6_root 43 = .ok (.getfield 60, 3) := by decide +kernel
theorem dX6_root_46 : decode cX6_root 46 = .ok (.iload_n 1, 1) := by decide +kernel
theorem dX6_root_47 : decode cX6_root 47 = .ok (.iload_n 2, 1) := by decide +kernel
theorem dX6_root_48 : decode cX6_root 48 = .ok (.iastore, 1) := by decide +kernel
theorem dX6_root_49 : decode cX6_root 49 = .ok (.iload_n 3, 1) := by decide +kernel
theorem dX6_root_50 : decode cX6_root 50 = .ok (.ireturn, 1) := by decide +kernel
set_option maxRecDepth 20000 in
theorem ggX6_trap_X6_checkTuft : GoodIn wsX6_trap wsX6_checkTuft := goodIn_ca (goodIn_r _ [11, 12, 13] (by decide +kernel) (by decide +kernel)) (goodIn_sub (fun _ h => List.mem_cons_of_mem _ (List.mem_append_right _ h)) (by decide +kernel))
set_option maxRecDepth 20000 in
theorem gX6_trap_X6_checkTuft : GoodIn wsX6_trap (wsV RX6 52 RX6 yX6_checkTuft wsX6_checkTuft) := goodIn_app (goodIn_of _ (by decide +kernel)) ggX6_trap_X6_checkTuft
set_option maxRecDepth 20000 in
theorem ggX6_trap_X6_saveState : GoodIn wsX6_trap wsX6_saveState := goodIn_r _ [17, 18, 19, 5, 20, 21, 22, 23, 24, 25, 26, 27, 28, 29, 30, 31, 32, 33, 34, 35, 36, 37, 38, 39, 40, 41, 42, 43, 44, 45, 46, 47, 48, 49, 50, 51, 52, 53, 54, 55, 56, 57, 58, 59, 60, 61, 62, 63, 68, 69, 70, 71, 72, 73, 74, 75, 76, 77, 78, 79, 80, 81, 82, 83, 84, 85, 86, 87, 88, 89, 90, 91, 92, 93, 94, 95, 96, 97, 98, 99, 100, 101] (by decide +kernel) (by decide +kernel)
set_option maxRecDepth 20000 in
theorem gX6_trap_X6_saveState : GoodIn wsX6_trap (wsV RX6 71 RX6 yX6_saveState wsX6_saveState) := goodIn_app (goodIn_of _ (by decide +kernel)) ggX6_trap_X6_saveState
set_option maxRecDepth 20000 in
theorem ggX6_trap_X0_trapCount : GoodIn wsX6_trap wsX0_trapCount := goodIn_r _ [67, 32, 77, 78, 79, 80, 81, 82, 83, 84, 85, 86, 87, 88, 89, 90] (by decide +kernel) (by decide +kernel)
set_option maxRecDepth 20000 in
theorem gX6_trap_X0_trapCount : GoodIn wsX6_trap (wsV RX6 118 RX0 yX0_trapCount wsX0_trapCount) := goodIn_app (goodIn_of _ (by decide +kernel)) ggX6_trap_X0_trapCount
theorem dX6_trap_0 : decode cX6_trap 0 = .ok (.aload_n 0, 1) := by decide +kernel
theorem dX6_trap_1 : decode cX6_trap 1 = .ok (.iload_n 1, 1) := by decide +kernel
theorem dX6_trap_2 : decode cX6_trap 2 = .ok (.invokevirtual 52, 3) := by decide +kernel
theorem dX6_trap_5 : decode cX6_trap 5 = .ok (.iload_n 2, 1) := by decide +kernel
theorem dX6_trap_6 : decode cX6_trap 6 = .ok (.ifCond .lt 9, 3) := by decide +kernel
theorem dX6_trap_9 : decode cX6_trap 9 = .ok (.iload_n 2, 1) := by decide +kernel
theorem dX6_trap_10 : decode cX6_trap 10 = .ok (.bipush 20, 2) := by decide +kernel
theorem dX6_trap_12 : decode cX6_trap 12 = .ok (.if_icmp .le 13, 3) := by decide +kernel
theorem dX6_trap_15 : decode cX6_trap 15 = .ok (.new 81, 3) := by decide +kernel
theorem dX6_trap_18 : decode cX6_trap 18 = .ok (.dup, 1) := by decide +kernel
theorem dX6_trap_19 : decode cX6_trap 19 = .ok (.ldc 111, 2) := by decide +kernel
theorem dX6_trap_21 : decode cX6_trap 21 = .ok (.invokespecial 85, 3) := by decide +kernel
theorem dX6_trap_24 : decode cX6_trap 24 = .ok (.athrow, 1) := by decide +kernel
theorem dX6_trap_25 : decode cX6_trap 25 = .ok (.aload_n 0, 1) := by decide +kernel
theorem dX6_trap_26 : decode cX6_trap 26 = .ok (.getfield 15, 3) := by decide +kernel
theorem dX6_trap_29 : decode cX6_trap 29 = .ok (.getfield 113, 3) := by decide +kernel
theorem dX6_trap_32 : decode cX6_trap 32 = .ok (.iload_n 1, 1) := by decide +kernel
theorem dX6_trap_33 : decode cX6_trap 33 = .ok (.iaload, 1) := by decide +kernel
theorem dX6_trap_34 : decode cX6_trap 34 = .ok (.iconst (-1), 1) := by decide +kernel
theorem dX6_trap_35 : decode cX6_trap 35 = .ok (.if_icmp .eq 13, 3) := by decide +kernel
theorem dX6_trap_38 : decode cX6_trap 38 = .ok (.new 64, 3) := by decide +kernel
theorem dX6_trap_41 : decode cX6_trap 41 = .ok (.dup, 1) := by decide +kernel
theorem dX6_trap_42 : decode cX6_trap 42 = .ok (.ldc 116, 2) := by decide +kernel
theorem dX6_trap_44 : decode cX6_trap 44 = .ok (.invokespecial 68, 3) := by decide +kernel
theorem dX6_trap_47 : decode cX6_trap 47 = .ok (.athrow, 1) := by decide +kernel
theorem dX6_trap_48 : decode cX6_trap 48 = .ok (.aload_n 0, 1) := by decide +kernel
theorem dX6_trap_49 : decode cX6_trap 49 = .ok (.invokevirtual 71, 3) := by decide +kernel
theorem dX6_trap_52 : decode cX6_trap 52 = .ok (.aload_n 0, 1) := by decide +kernel
theorem dX6_trap_53 : decode cX6_trap 53 = .ok (.getfield 15, 3) := by decide +kernel
theorem dX6_trap_56 : decode cX6_trap 56 = .ok (.getfield 113, 3) := by decide +kernel
theorem dX6_trap_59 : decode cX6_trap 59 = .ok (.iload_n 1, 1) := by decide +kernel
theorem dX6_trap_60 : decode cX6_trap 60 = .ok (.iload_n 2, 1) := by decide +kernel
theorem dX6_trap_61 : decode cX6_trap 61 = .ok (.iastore, 1) := by decide +kernel
theorem dX6_trap_62 : decode cX6_trap 62 = .ok (.aload_n 0, 1) := by decide +kernel
theorem dX6_trap_63 : decode cX6_trap 63 = .ok (.getfield 15, 3) := by decide +kernel
theorem dX6_trap_66 : decode cX6_trap 66 = .ok (.invokevirtual 118, 3) := by decide +kernel
theorem dX6_trap_69 : decode cX6_trap 69 = .ok (.ireturn, 1) := by decide +kernel
set_option maxRecDepth 20000 in
theorem ggX6_dig_X6_checkTuft : GoodIn wsX6_dig wsX6_checkTuft := goodIn_ca (goodIn_r _ [6, 7, 8] (by decide +kernel) (by decide +kernel)) (goodIn_sub (fun _ h => List.mem_cons_of_mem _ (List.mem_append_right _ h)) (by decide +kernel))
set_option maxRecDepth 20000 in
theorem gX6_dig_X6_checkTuft : GoodIn wsX6_dig (wsV RX6 52 RX6 yX6_checkTuft wsX6_checkTuft) := goodIn_app (goodIn_of _ (by decide +kernel)) ggX6_dig_X6_checkTuft
set_option maxRecDepth 20000 in
theorem ggX6_dig_X6_saveState : GoodIn wsX6_dig wsX6_saveState := goodIn_r _ [12, 13, 14, 1, 15, 16, 17, 18, 19, 20, 21, 22, 23, 24, 25, 26, 27, 28, 29, 30, 31, 32, 33, 34, 35, 36, 37, 38, 39, 40, 41, 42, 43, 44, 45, 46, 47, 48, 49, 50, 51, 52, 53, 54, 55, 56, 57, 58, 131, 132, 133, 134, 135, 136, 137, 138, 139, 140, 141, 142, 143, 144, 145, 146, 147, 148, 149, 150, 151, 152, 153, 154, 155, 156, 157, 158, 159, 160, 161, 162, 163, 164] (by decide +kernel) (by decide +kernel)
set_option maxRecDepth 20000 in
theorem gX6_dig_X6_saveState : GoodIn wsX6_dig (wsV RX6 71 RX6 yX6_saveState wsX6_saveState) := goodIn_app (goodIn_of _ (by decide +kernel)) ggX6_dig_X6_saveState
set_option maxRecDepth 20000 in
theorem ggX6_dig_X0_digUp : GoodIn wsX6_dig wsX0_digUp := goodIn_r _ [62, 25, 26, 27, 33, 29, 30, 20, 63, 64, 65, 50, 66, 58, 53, 67, 68, 69, 18, 70, 71, 72, 73, 74, 28, 75, 76, 77, 36, 78, 79, 80, 40, 81, 42, 43, 82, 83, 84, 85, 44, 86, 87, 88, 89, 46, 90, 91, 92, 93, 94, 95, 96, 97, 98, 99, 45, 22, 23, 24, 37, 38, 39, 41, 100, 101, 102, 103, 104, 31, 105, 106, 107, 108, 109, 110, 111, 112, 113, 114, 115, 116, 117, 35, 118, 119, 120, 121, 122, 123, 124, 125, 126, 127, 128, 129, 130, 140, 141, 142, 143, 144, 145, 146, 147, 148, 149, 150, 151, 152, 153, 158, 159, 160, 161, 162, 163, 164, 154, 155, 156, 157] (by decide +kernel) (by decide +kernel)
set_option maxRecDepth 20000 in
theorem gX6_dig_X0_digUp : GoodIn wsX6_dig (wsV RX6 122 RX0 yX0_digUp wsX0_digUp) := goodIn_app (goodIn_of _ (by decide +kernel)) ggX6_dig_X0_digUp
theorem dX6_dig_0 : decode cX6_dig 0 = .ok (.aload_n 0, 1) := by decide +kernel
theorem dX6_dig_1 : decode cX6_dig 1 = .ok (.iload_n 1, 1) := by decide +kernel
theorem dX6_dig_2 : decode cX6_dig 2 = .ok (.invokevirtual 52, 3) := by decide +kernel
theorem dX6_dig_5 : decode cX6_dig 5 = .ok (.aload_n 0, 1) := by decide +kernel
theorem dX6_dig_6 : decode cX6_dig 6 = .ok (.invokevirtual 71, 3) := by decide +kernel
theorem dX6_dig_9 : decode cX6_dig 9 = .ok (.aload_n 0, 1) := by decide +kernel
theorem dX6_dig_10 : decode cX6_dig 10 = .ok (.getfield 15, 3) := by decide +kernel
theorem dX6_dig_13 : decode cX6_dig 13 = .ok (.iload_n 1, 1) := by decide +kernel
theorem dX6_dig_14 : decode cX6_dig 14 = .ok (.invokevirtual 122, 3) := by decide +kernel
theorem dX6_dig_17 : decode cX6_dig 17 = .ok (.ireturn, 1) := by decide +kernel
set_option maxRecDepth 20000 in
theorem ggX6_rake_X6_checkTuft : GoodIn wsX6_rake wsX6_checkTuft := goodIn_ca (goodIn_r _ [9, 10, 11] (by decide +kernel) (by decide +kernel)) (goodIn_sub (fun _ h => List.mem_cons_of_mem _ (List.mem_append_right _ h)) (by decide +kernel))
set_option maxRecDepth 20000 in
theorem gX6_rake_X6_checkTuft : GoodIn wsX6_rake (wsV RX6 52 RX6 yX6_checkTuft wsX6_checkTuft) := goodIn_app (goodIn_of _ (by decide +kernel)) ggX6_rake_X6_checkTuft
set_option maxRecDepth 20000 in
theorem ggX6_rake_X0_trailBeginsAt : GoodIn wsX6_rake wsX0_trailBeginsAt := goodIn_r _ [16, 17, 18, 19, 156, 157, 158, 159, 160, 161, 162, 163, 164, 165, 166, 167, 168, 169, 170, 171, 172, 173, 174, 175, 176] (by decide +kernel) (by decide +kernel)
set_option maxRecDepth 20000 in
theorem gX6_rake_X0_trailBeginsAt : GoodIn wsX6_rake (wsV RX6 129 RX0 yX0_trailBeginsAt wsX0_trailBeginsAt) := goodIn_app (goodIn_of _ (by decide +kernel)) ggX6_rake_X0_trailBeginsAt
set_option maxRecDepth 20000 in
theorem ggX6_rake_X6_saveState : GoodIn wsX6_rake wsX6_saveState := goodIn_r _ [23, 24, 25, 3, 26, 27, 28, 15, 29, 30, 31, 32, 33, 34, 35, 36, 37, 38, 17, 18, 39, 40, 41, 42, 43, 44, 45, 46, 47, 48, 49, 50, 51, 52, 53, 54, 55, 56, 57, 58, 59, 60, 61, 62, 63, 64, 65, 66, 147, 148, 149, 150, 151, 152, 153, 154, 155, 156, 157, 158, 159, 160, 161, 162, 163, 164, 165, 166, 167, 168, 169, 177, 178, 179, 180, 170, 171, 172, 173, 174, 175, 176] (by decide +kernel) (by decide +kernel)
set_option maxRecDepth 20000 in
theorem gX6_rake_X6_saveState : GoodIn wsX6_rake (wsV RX6 71 RX6 yX6_saveState wsX6_saveState) := goodIn_app (goodIn_of _ (by decide +kernel)) ggX6_rake_X6_saveState
set_option maxRecDepth 20000 in
theorem ggX6_rake_X0_rakeOff : GoodIn wsX6_rake wsX0_rakeOff := goodIn_r _ [70, 38, 71, 30, 72, 73, 74, 48, 75, 51, 76, 77, 78, 79, 80, 81, 82, 83, 84, 85, 86, 87, 52, 88, 89, 90, 91, 54, 92, 93, 94, 95, 96, 97, 98, 99, 100, 101, 102, 103, 104, 105, 106, 15, 107, 108, 109, 110, 111, 112, 113, 50, 114, 115, 116, 117, 118, 119, 120, 121, 122, 123, 124, 125, 126, 127, 128, 129, 130, 131, 132, 133, 134, 135, 136, 137, 138, 53, 32, 33, 34, 45, 46, 47, 49, 139, 140, 141, 142, 44, 143, 144, 145, 146, 156, 157, 158, 159, 160, 161, 162, 163, 164, 165, 166, 167, 168, 169, 177, 178, 179, 180] (by decide +kernel) (by decide +kernel)
set_option maxRecDepth 20000 in
theorem gX6_rake_X0_rakeOff : GoodIn wsX6_rake (wsV RX6 135 RX0 yX0_rakeOff wsX0_rakeOff) := goodIn_app (goodIn_of _ (by decide +kernel)) ggX6_rake_X0_rakeOff
theorem dX6_rake_0 : decode cX6_rake 0 = .ok (.aload_n 0, 1) := by decide +kernel
theorem dX6_rake_1 : decode cX6_rake 1 = .ok (.iload_n 1, 1) := by decide +kernel
theorem dX6_rake_2 : decode cX6_rake 2 = .ok (.invokevirtual 52, 3) := by decide +kernel
theorem dX6_rake_5 : decode cX6_rake 5 = .ok (.aload_n 0, 1) := by decide +kernel
theorem dX6_rake_6 : decode cX6_rake 6 = .ok (.getfield 15, 3) := by decide +kernel
theorem dX6_rake_9 : decode cX6_rake 9 = .ok (.getfield 125, 3) := by decide +kernel
theorem dX6_rake_12 : decode cX6_rake 12 = .ok (.iload_n 1, 1) := by decide +kernel
theorem dX6_rake_13 : decode cX6_rake 13 = .ok (.baload, 1) := by decide +kernel
theorem dX6_rake_14 : decode cX6_rake 14 = .ok (.ifCond .eq 14, 3) := by decide +kernel
theorem dX6_rake_17 : decode cX6_rake 17 = .ok (.aload_n 0, 1) := by decide +kernel
theorem dX6_rake_18 : decode cX6_rake 18 = .ok (.getfield 15, 3) := by decide +kernel
theorem dX6_rake_21 : decode cX6_rake 21 = .ok (.iload_n 1, 1) := by decide +kernel
theorem dX6_rake_22 : decode cX6_rake 22 = .ok (.invokevirtual 129, 3) := by decide +kernel
theorem dX6_rake_25 : decode cX6_rake 25 = .ok (.ifCond .eq 13, 3) := by decide +kernel
theorem dX6_rake_28 : decode cX6_rake 28 = .ok (.new 64, 3) := by decide +kernel
theorem dX6_rake_31 : decode cX6_rake 31 = .ok (.dup, 1) := by decide +kernel
theorem dX6_rake_32 : decode cX6_rake 32 = .ok (.ldc 133, 2) := by decide +kernel
theorem dX6_rake_34 : decode cX6_rake 34 = .ok (.invokespecial 68, 3) := by decide +kernel
theorem dX6_rake_37 : decode cX6_rake 37 = .ok (.athrow, 1) := by decide +kernel
theorem dX6_rake_38 : decode cX6_rake 38 = .ok (.aload_n 0, 1) := by decide +kernel
theorem dX6_rake_39 : decode cX6_rake 39 = .ok (.invokevirtual 71, 3) := by decide +kernel
theorem dX6_rake_42 : decode cX6_rake 42 = .ok (.aload_n 0, 1) := by decide +kernel
theorem dX6_rake_43 : decode cX6_rake 43 = .ok (.getfield 15, 3) := by decide +kernel
theorem dX6_rake_46 : decode cX6_rake 46 = .ok (.iload_n 1, 1) := by decide +kernel
theorem dX6_rake_47 : decode cX6_rake 47 = .ok (.invokevirtual 135, 3) := by decide +kernel
theorem dX6_rake_50 : decode cX6_rake 50 = .ok (.ireturn, 1) := by decide +kernel
set_option maxRecDepth 20000 in
theorem ggX6_set_X6_saveState : GoodIn wsX6_set wsX6_saveState := goodIn_r _ [9, 10, 11, 3, 12, 13, 14, 15, 16, 17, 18, 19, 20, 21, 22, 23, 24, 25, 26, 27, 28, 29, 30, 31, 32, 33, 34, 35, 36, 37, 38, 39, 40, 41, 42, 43, 44, 45, 46, 47, 48, 49, 50, 51, 52, 53, 54, 55, 65, 66, 67, 68, 69, 70, 71, 72, 73, 74, 75, 76, 77, 78, 79, 80, 81, 82, 83, 84, 85, 86, 87, 88, 89, 90, 91, 92, 93, 94, 95, 96, 97, 98] (by decide +kernel) (by decide +kernel)
set_option maxRecDepth 20000 in
theorem gX6_set_X6_saveState : GoodIn wsX6_set (wsV RX6 71 RX6 yX6_saveState wsX6_saveState) := goodIn_app (goodIn_of _ (by decide +kernel)) ggX6_set_X6_saveState
set_option maxRecDepth 20000 in
theorem ggX6_set_X0_setFullAir : GoodIn wsX6_set wsX0_setFullAir := goodIn_r _ [59, 28, 26, 27, 60, 61, 62, 63, 64, 74, 75, 76, 77, 78, 79, 80, 81, 82, 83, 84, 85, 86, 87, 92, 93, 94, 95, 96, 97, 98] (by decide +kernel) (by decide +kernel)
set_option maxRecDepth 20000 in
theorem gX6_set_X0_setFullAir : GoodIn wsX6_set (wsV RX6 143 RX0 yX0_setFullAir wsX0_setFullAir) := goodIn_app (goodIn_of _ (by decide +kernel)) ggX6_set_X0_setFullAir
theorem dX6_set_0 : decode cX6_set 0 = .ok (.iload_n 1, 1) := by decide +kernel
theorem dX6_set_1 : decode cX6_set 1 = .ok (.iconst 2, 1) := by decide +kernel
theorem dX6_set_2 : decode cX6_set 2 = .ok (.if_icmp .lt 9, 3) := by decide +kernel
theorem dX6_set_5 : decode cX6_set 5 = .ok (.iload_n 1, 1) := by decide +kernel
theorem dX6_set_6 : decode cX6_set 6 = .ok (.bipush 20, 2) := by decide +kernel
theorem dX6_set_8 : decode cX6_set 8 = .ok (.if_icmp .le 13, 3) := by decide +kernel
theorem dX6_set_11 : decode cX6_set 11 = .ok (.new 81, 3) := by decide +kernel
theorem dX6_set_14 : decode cX6_set 14 = .ok (.dup, 1) := by decide +kernel
theorem dX6_set_15 : decode cX6_set 15 = .ok (.ldc 138, 2) := by decide +kernel
theorem dX6_set_17 : decode cX6_set 17 = .ok (.invokespecial 85, 3) := by decide +kernel
theorem dX6_set_20 : decode cX6_set 20 = .ok (.athrow, 1) := by decide +kernel
theorem dX6_set_21 : decode cX6_set 21 = .ok (.aload_n 0, 1) := by decide +kernel
theorem dX6_set_22 : decode cX6_set 22 = .ok (.invokevirtual 71, 3) := by decide +kernel
theorem dX6_set_25 : decode cX6_set 25 = .ok (.aload_n 0, 1) := by decide +kernel
theorem dX6_set_26 : decode cX6_set 26 = .ok (.getfield 15, 3) := by decide +kernel
theorem dX6_set_29 : decode cX6_set 29 = .ok (.getfield 140, 3) := by decide +kernel
theorem dX6_set_32 : decode cX6_set 32 = .ok (.istore_n 2, 1) := by decide +kernel
theorem dX6_set_33 : decode cX6_set 33 = .ok (.aload_n 0, 1) := by decide +kernel
theorem dX6_set_34 : decode cX6_set 34 = .ok (.getfield 15, 3) := by decide +kernel
theorem dX6_set_37 : decode cX6_set 37 = .ok (.iload_n 1, 1) := by decide +kernel
theorem dX6_set_38 : decode cX6_set 38 = .ok (.invokevirtual 143, 3) := by decide +kernel
theorem dX6_set_41 : decode cX6_set 41 = .ok (.iload_n 2, 1) := by decide +kernel
theorem dX6_set_42 : decode cX6_set 42 = .ok (.ireturn, 1) := by decide +kernel
set_option maxRecDepth 20000 in
theorem ggX6_append_X5_put : GoodIn wsX6_append wsX5_put := goodIn_r _ [11, 12, 13, 23, 24] (by decide +kernel) (by decide +kernel)
set_option maxRecDepth 20000 in
theorem gX6_append_X5_put : GoodIn wsX6_append (wsV RX6 153 RX5 yX5_put wsX5_put) := goodIn_app (goodIn_of _ (by decide +kernel)) ggX6_append_X5_put
theorem dX6_append_0 : decode cX6_append 0 = .ok (.iload_n 1, 1) := by decide +kernel
theorem dX6_append_1 : decode cX6_append 1 = .ok (.bipush 33, 2) := by decide +kernel
theorem dX6_append_3 : decode cX6_append 3 = .ok (.if_icmp .lt 9, 3) := by decide +kernel
theorem dX6_append_6 : decode cX6_append 6 = .ok (.iload_n 1, 1) := by decide +kernel
theorem dX6_append_7 : decode cX6_append 7 = .ok (.bipush 126, 2) := by decide +kernel
theorem dX6_append_9 : decode cX6_append 9 = .ok (.if_icmp .le 13, 3) := by decide +kernel
theorem dX6_append_12 : decode cX6_append 12 = .ok (.new 81, 3) := by decide +kernel
theorem dX6_append_15 : decode cX6_append 15 = .ok (.dup, 1) := by decide +kernel
theorem dX6_append_16 : decode cX6_append 16 = .ok (.ldc 146, 2) := by decide +kernel
theorem dX6_append_18 : decode cX6_append 18 = .ok (.invokespecial 85, 3) := by decide +kernel
theorem dX6_append_21 : decode cX6_append 21 = .ok (.athrow, 1) := by decide +kernel
theorem dX6_append_22 : decode cX6_append 22 = .ok (.aload_n 0, 1) := by decide +kernel
theorem dX6_append_23 : decode cX6_append 23 = .ok (.getfield 34, 3) := by decide +kernel
theorem dX6_append_26 : decode cX6_append 26 = .ok (.getfield 148, 3) := by decide +kernel
theorem dX6_append_29 : decode cX6_append 29 = .ok (.bipush 60, 2) := by decide +kernel
theorem dX6_append_31 : decode cX6_append 31 = .ok (.if_icmp .lt 13, 3) := by decide +kernel
theorem dX6_append_34 : decode cX6_append 34 = .ok (.new 64, 3) := by decide +kernel
theorem dX6_append_37 : decode cX6_append 37 = .ok (.dup, 1) := by decide +kernel
theorem dX6_append_38 : decode cX6_append 38 = .ok (.ldc 151, 2) := by decide +kernel
theorem dX6_append_40 : decode cX6_append 40 = .ok (.invokespecial 68, 3) := by decide +kernel
theorem dX6_append_43 : decode cX6_append 43 = .ok (.athrow, 1) := by decide +kernel
theorem dX6_append_44 : decode cX6_append 44 = .ok (.aload_n 0, 1) := by decide +kernel
theorem dX6_append_45 : decode cX6_append 45 = .ok (.getfield 34, 3) := by decide +kernel
theorem dX6_append_48 : decode cX6_append 48 = .ok (.iload_n 1, 1) := by decide +kernel
theorem dX6_append_49 : decode cX6_append 49 = .ok (.invokevirtual 153, 3) := by decide +kernel
theorem dX6_append_52 : decode cX6_append 52 = .ok (.aload_n 0, 1) := by decide +kernel
theorem dX6_append_53 : decode cX6_append 53 = .ok (.getfield 34, 3) := by decide +kernel
theorem dX6_append_56 : decode cX6_append 56 = .ok (.getfield 148, 3) := by decide +kernel
theorem dX6_append_59 : decode cX6_append 59 = .ok (.ireturn, 1) := by decide +kernel
theorem dX6_clearBuffer_0 : decode cX6_clearBuffer 0 = .ok (.aload_n 0, 1) := by decide +kernel
theorem dX6_clearBuffer_1 : decode cX6_clearBuffer 1 = .ok (.getfield 34, 3) := by decide +kernel
theorem dX6_clearBuffer_4 : decode cX6_clearBuffer 4 = .ok (.getfield 148, 3) := by decide +kernel
theorem dX6_clearBuffer_7 : decode cX6_clearBuffer 7 = .ok (.istore_n 1, 1) := by decide +kernel
theorem dX6_clearBuffer_8 : decode cX6_clearBuffer 8 = .ok (.aload_n 0, 1) := by decide +kernel
theorem dX6_clearBuffer_9 : decode cX6_clearBuffer 9 = .ok (.getfield 34, 3) := by decide +kernel
theorem dX6_clearBuffer_12 : decode cX6_clearBuffer 12 = .ok (.iconst 0, 1) := by decide +kernel
theorem dX6_clearBuffer_13 : decode cX6_clearBuffer 13 = .ok (.putfield 148, 3) := by decide +kernel
theorem dX6_clearBuffer_16 : decode cX6_clearBuffer 16 = .ok (.iload_n 1, 1) := by decide +kernel
theorem dX6_clearBuffer_17 : decode cX6_clearBuffer 17 = .ok (.ireturn, 1) := by decide +kernel
set_option maxRecDepth 20000 in
theorem ggX6_firstError_X5_firstFault : GoodIn wsX6_firstError wsX5_firstFault := goodIn_r _ [6, 7, 8, 9, 10, 5, 11, 12, 13, 14, 24, 25] (by decide +kernel) (by decide +kernel)
set_option maxRecDepth 20000 in
theorem gX6_firstError_X5_firstFault : GoodIn wsX6_firstError (wsV RX6 156 RX5 yX5_firstFault wsX5_firstFault) := goodIn_app (goodIn_of _ (by decide +kernel)) ggX6_firstError_X5_firstFault
theorem dX6_firstError_0 : decode cX6_firstError 0 = .ok (.aload_n 0, 1) := by decide +kernel
theorem dX6_firstError_1 : decode cX6_firstError 1 = .ok (.getfield 34, 3) := by decide +kernel
theorem dX6_firstError_4 : decode cX6_firstError 4 = .ok (.invokevirtual 156, 3) := by decide +kernel
theorem dX6_firstError_7 : decode cX6_firstError 7 = .ok (.ireturn, 1) := by decide +kernel
set_option maxRecDepth 20000 in
theorem ggX6_plans_X5_isComplete : GoodIn wsX6_plans wsX5_isComplete := goodIn_r _ [12, 13, 14, 15, 16, 11, 17, 18, 19, 20, 91, 92] (by decide +kernel) (by decide +kernel)
set_option maxRecDepth 20000 in
theorem gX6_plans_X5_isComplete : GoodIn wsX6_plans (wsV RX6 159 RX5 yX5_isComplete wsX5_isComplete) := goodIn_app (goodIn_of _ (by decide +kernel)) ggX6_plans_X5_isComplete
set_option maxRecDepth 20000 in
theorem ggX6_plans_X6_saveState : GoodIn wsX6_plans wsX6_saveState := goodIn_r _ [25, 26, 27, 6, 28, 29, 30, 31, 32, 33, 34, 35, 36, 37, 38, 39, 40, 41, 42, 43, 44, 45, 46, 47, 48, 49, 50, 51, 52, 53, 54, 55, 56, 57, 58, 59, 60, 61, 62, 63, 64, 65, 66, 67, 68, 69, 70, 71, 82, 83, 84, 85, 86, 87, 88, 89, 90, 93, 94, 95, 96, 97, 98, 99, 100, 101, 102, 103, 104, 105, 106, 107, 108, 109, 110, 111, 112, 113, 114, 115, 116, 117] (by decide +kernel) (by decide +kernel)
set_option maxRecDepth 20000 in
theorem gX6_plans_X6_saveState : GoodIn wsX6_plans (wsV RX6 71 RX6 yX6_saveState wsX6_saveState) := goodIn_app (goodIn_of _ (by decide +kernel)) ggX6_plans_X6_saveState
set_option maxRecDepth 20000 in
theorem ggX6_plans_X5_directionOf : GoodIn wsX6_plans wsX5_directionOf := goodIn_r _ [20] (by decide +kernel) (by decide +kernel)
set_option maxRecDepth 20000 in
theorem gX6_plans_X5_directionOf : GoodIn wsX6_plans (va_wsS RX6 168 yX5_directionOf wsX5_directionOf) := goodIn_app (goodIn_of _ (by decide +kernel)) ggX6_plans_X5_directionOf
set_option maxRecDepth 20000 in
theorem ggX6_plans_X0_hasRoomInPlan : GoodIn wsX6_plans wsX0_hasRoomInPlan := goodIn_r _ [76, 42, 43, 77, 93, 94, 95, 96, 97, 98, 99, 100, 101, 102, 103, 104, 105, 106, 111, 112, 113, 114, 115, 116, 117] (by decide +kernel) (by decide +kernel)
set_option maxRecDepth 20000 in
theorem gX6_plans_X0_hasRoomInPlan : GoodIn wsX6_plans (wsV RX6 171 RX0 yX0_hasRoomInPlan wsX0_hasRoomInPlan) := goodIn_app (goodIn_of _ (by decide +kernel)) ggX6_plans_X0_hasRoomInPlan
set_option maxRecDepth 20000 in
theorem ggX6_plans_X1_addDirection : GoodIn wsX6_plans wsX1_addDirection := goodIn_r _ [81, 65, 69, 111, 112, 113, 114, 115, 116, 117] (by decide +kernel) (by decide +kernel)
set_option maxRecDepth 20000 in
theorem gX6_plans_X1_addDirection : GoodIn wsX6_plans (wsV RX6 97 RX1 yX1_addDirection wsX1_addDirection) := goodIn_app (goodIn_of _ (by decide +kernel)) ggX6_plans_X1_addDirection
theorem dX6_plans_0 : decode cX6_plans 0 = .ok (.aload_n 0, 1) := by decide +kernel
theorem dX6_plans_1 : decode cX6_plans 1 = .ok (.getfield 34, 3) := by decide +kernel
theorem dX6_plans_4 : decode cX6_plans 4 = .ok (.invokevirtual 159, 3) := by decide +kernel
theorem dX6_plans_7 : decode cX6_plans 7 = .ok (.ifCond .ne 13, 3) := by decide +kernel
theorem dX6_plans_10 : decode cX6_plans 10 = .ok (.new 81, 3) := by decide +kernel
theorem dX6_plans_13 : decode cX6_plans 13 = .ok (.dup, 1) := by decide +kernel
theorem dX6_plans_14 : decode cX6_plans 14 = .ok (.ldc 163, 2) := by decide +kernel
theorem dX6_plans_16 : decode cX6_plans 16 = .ok (.invokespecial 85, 3) := by decide +kernel
theorem dX6_plans_19 : decode cX6_plans 19 = .ok (.athrow, 1) := by decide +kernel
theorem dX6_plans_20 : decode cX6_plans 20 = .ok (.aload_n 0, 1) := by decide +kernel
theorem dX6_plans_21 : decode cX6_plans 21 = .ok (.invokevirtual 71, 3) := by decide +kernel
theorem dX6_plans_24 : decode cX6_plans 24 = .ok (.iconst 0, 1) := by decide +kernel
theorem dX6_plans_25 : decode cX6_plans 25 = .ok (.istore_n 1, 1) := by decide +kernel
theorem dX6_plans_26 : decode cX6_plans 26 = .ok (.iconst (-1), 1) := by decide +kernel
theorem dX6_plans_27 : decode cX6_plans 27 = .ok (.istore_n 2, 1) := by decide +kernel
theorem dX6_plans_28 : decode cX6_plans 28 = .ok (.iconst 0, 1) := by decide +kernel
theorem dX6_plans_29 : decode cX6_plans 29 = .ok (.istore_n 3, 1) := by decide +kernel
theorem dX6_plans_30 : decode cX6_plans 30 = .ok (.iload_n 3, 1) := by decide +kernel
theorem dX6_plans_31 : decode cX6_plans 31 = .ok (.aload_n 0, 1) := by decide +kernel
theorem dX6_plans_32 : decode cX6_plans 32 = .ok (.getfield 34, 3) := by decide +kernel
theorem dX6_plans_35 : decode cX6_plans 35 = .ok (.getfield 148, 3) := by decide +kernel
theorem dX6_plans_38 : decode cX6_plans 38 = .ok (.if_icmp .ge 101, 3) := by decide +kernel
theorem dX6_plans_41 : decode cX6_plans 41 = .ok (.aload_n 0, 1) := by decide +kernel
theorem dX6_plans_42 : decode cX6_plans 42 = .ok (.getfield 34, 3) := by decide +kernel
theorem dX6_plans_45 : decode cX6_plans 45 = .ok (.getfield 165, 3) := by decide +kernel
theorem dX6_plans_48 : decode cX6_plans 48 = .ok (.iload_n 3, 1) := by decide +kernel
theorem dX6_plans_49 : decode cX6_plans 49 = .ok (.iaload, 1) := by decide +kernel
theorem dX6_plans_50 : decode cX6_plans 50 = .ok (.invokestatic 168, 3) := by decide +kernel
theorem dX6_plans_53 : decode cX6_plans 53 = .ok (.istore 4, 2) := by decide +kernel
theorem dX6_plans_55 : decode cX6_plans 55 = .ok (.aload_n 0, 1) := by decide +kernel
theorem dX6_plans_56 : decode cX6_plans 56 = .ok (.getfield 34, 3) := by decide +kernel
theorem dX6_plans_59 : decode cX6_plans 59 = .ok (.getfield 165, 3) := by decide +kernel
theorem dX6_plans_62 : decode cX6_plans 62 = .ok (.iload_n 3, 1) := by decide +kernel
theorem dX6_plans_63 : decode cX6_plans 63 = .ok (.iaload, 1) := by decide +kernel
theorem dX6_plans_64 : decode cX6_plans 64 = .ok (.bipush 48, 2) := by decide +kernel
theorem dX6_plans_66 : decode cX6_plans 66 = .ok (.if_icmp .lt 33, 3) := by decide +kernel
theorem dX6_plans_69 : decode cX6_plans 69 = .ok (.aload_n 0, 1) := by decide +kernel
theorem dX6_plans_70 : decode cX6_plans 70 = .ok (.getfield 34, 3) := by decide +kernel
theorem dX6_plans_73 : decode cX6_plans 73 = .ok (.getfield 165, 3) := by decide +kernel
theorem dX6_plans_76 : decode cX6_plans 76 = .ok (.iload_n 3, 1) := by decide +kernel
theorem dX6_plans_77 : decode cX6_plans 77 = .ok (.iaload, 1) := by decide +kernel
theorem dX6_plans_78 : decode cX6_plans 78 = .ok (.bipush 51, 2) := by decide +kernel
theorem dX6_plans_80 : decode cX6_plans 80 = .ok (.if_icmp .gt 19, 3) := by decide +kernel
theorem dX6_plans_83 : decode cX6_plans 83 = .ok (.aload_n 0, 1) := by decide +kernel
theorem dX6_plans_84 : decode cX6_plans 84 = .ok (.getfield 34, 3) := by decide +kernel
theorem dX6_plans_87 : decode cX6_plans 87 = .ok (.getfield 165, 3) := by decide +kernel
theorem dX6_plans_90 : decode cX6_plans 90 = .ok (.iload_n 3, 1) := by decide +kernel
theorem dX6_plans_91 : decode cX6_plans 91 = .ok (.iaload, 1) := by decide +kernel
theorem dX6_plans_92 : decode cX6_plans 92 = .ok (.bipush 48, 2) := by decide +kernel
theorem dX6_plans_94 : decode cX6_plans 94 = .ok (.isub, 1) := by decide +kernel
theorem dX6_plans_95 : decode cX6_plans 95 = .ok (.istore_n 2, 1) := by decide +kernel
theorem dX6_plans_96 : decode cX6_plans 96 = .ok (.goto 37, 3) := by decide +kernel
theorem dX6_plans_99 : decode cX6_plans 99 = .ok (.iload 4, 2) := by decide +kernel
theorem dX6_plans_101 : decode cX6_plans 101 = .ok (.iconst (-1), 1) := by decide +kernel
theorem dX6_plans_102 : decode cX6_plans 102 = .ok (.if_icmp .eq 31, 3) := by decide +kernel
theorem dX6_plans_105 : decode cX6_plans 105 = .ok (.aload_n 0, 1) := by decide +kernel
theorem dX6_plans_106 : decode cX6_plans 106 = .ok (.getfield 15, 3) := by decide +kernel
theorem dX6_plans_109 : decode cX6_plans 109 = .ok (.iload_n 2, 1) := by decide +kernel
theorem dX6_plans_110 : decode cX6_plans 110 = .ok (.invokevirtual 171, 3) := by decide +kernel
theorem dX6_plans_113 : decode cX6_plans 113 = .ok (.ifCond .eq 20, 3) := by decide +kernel
theorem dX6_plans_116 : decode cX6_plans 116 = .ok (.aload_n 0, 1) := by decide +kernel
theorem dX6_plans_117 : decode cX6_plans 117 = .ok (.getfield 15, 3) := by decide +kernel
theorem dX6_plans_120 : decode cX6_plans 120 = .ok (.getfield 86, 3) := by decide +kernel
theorem dX6_plans_123 : decode cX6_plans 123 = .ok (.iload_n 2, 1) := by decide +kernel
theorem dX6_plans_124 : decode cX6_plans 124 = .ok (.aaload, 1) := by decide +kernel
theorem dX6_plans_125 : decode cX6_plans 125 = .ok (.iload 4, 2) := by decide +kernel
theorem dX6_plans_127 : decode cX6_plans 127 = .ok (.invokevirtual 97, 3) := by decide +kernel
theorem dX6_plans_130 : decode cX6_plans 130 = .ok (.iinc 1 1, 3) := by decide +kernel
theorem dX6_plans_133 : decode cX6_plans 133 = .ok (.iinc 3 1, 3) := by decide +kernel
theorem dX6_plans_136 : decode cX6_plans 136 = .ok (.goto (-106), 3) := by decide +kernel
theorem dX6_plans_139 : decode cX6_plans 139 = .ok (.aload_n 0, 1) := by decide +kernel
theorem dX6_plans_140 : decode cX6_plans 140 = .ok (.getfield 34, 3) := by decide +kernel
theorem dX6_plans_143 : decode cX6_plans 143 = .ok (.iconst 0, 1) := by decide +kernel
theorem dX6_plans_144 : decode cX6_plans 144 = .ok (.putfield 148, 3) := by decide +kernel
theorem dX6_plans_147 : decode cX6_plans 147 = .ok (.iload_n 1, 1) := by decide +kernel
theorem dX6_plans_148 : decode cX6_plans 148 = .ok (.ireturn, 1) := by decide +kernel
set_option maxRecDepth 20000 in
theorem ggX6_undo_X0_copyFrom : GoodIn wsX6_undo wsX0_copyFrom := goodIn_r _ [10, 11, 12, 13, 14, 15, 16, 17, 18, 19, 20, 21, 22, 23, 24, 25, 26, 27, 28, 29, 30, 31, 32, 33, 34, 35, 36, 37, 38, 39, 40, 41, 42, 43, 44, 45, 46, 47, 48, 49, 59, 60, 61, 62, 63, 64, 65, 66, 67, 68, 69, 70, 71, 72, 73, 74, 75, 76, 77, 78, 79, 80, 81, 82, 83] (by decide +kernel) (by decide +kernel)
set_option maxRecDepth 20000 in
theorem gX6_undo_X0_copyFrom : GoodIn wsX6_undo (wsV RX6 179 RX0 yX0_copyFrom wsX0_copyFrom) := goodIn_app (goodIn_of _ (by decide +kernel)) ggX6_undo_X0_copyFrom
theorem dX6_undo_0 : decode cX6_undo 0 = .ok (.aload_n 0, 1) := by decide +kernel
theorem dX6_undo_1 : decode cX6_undo 1 = .ok (.getfield 174, 3) := by decide +kernel
theorem dX6_undo_4 : decode cX6_undo 4 = .ok (.ifCond .gt 13, 3) := by decide +kernel
theorem dX6_undo_7 : decode cX6_undo 7 = .ok (.new 64, 3) := by decide +kernel
theorem dX6_undo_10 : decode cX6_undo 10 = .ok (.dup, 1) := by decide +kernel
theorem dX6_undo_11 : decode cX6_undo 11 = .ok (.ldc 177, 2) := by decide +kernel
theorem dX6_undo_13 : decode cX6_undo 13 = .ok (.invokespecial 68, 3) := by decide +kernel
theorem dX6_undo_16 : decode cX6_undo 16 = .ok (.athrow, 1) := by decide +kernel
theorem dX6_undo_17 : decode cX6_undo 17 = .ok (.aload_n 0, 1) := by decide +kernel
theorem dX6_undo_18 : decode cX6_undo 18 = .ok (.dup, 1) := by decide +kernel
theorem dX6_undo_19 : decode cX6_undo 19 = .ok (.getfield 174, 3) := by decide +kernel
theorem dX6_undo_22 : decode cX6_undo 22 = .ok (.iconst 1, 1) := by decide +kernel
theorem dX6_undo_23 : decode cX6_undo 23 = .ok (.isub, 1) := by decide +kernel
theorem dX6_undo_24 : decode cX6_undo 24 = .ok (.putfield 174, 3) := by decide +kernel
theorem dX6_undo_27 : decode cX6_undo 27 = .ok (.aload_n 0, 1) := by decide +kernel
theorem dX6_undo_28 : decode cX6_undo 28 = .ok (.getfield 15, 3) := by decide +kernel
theorem dX6_undo_31 : decode cX6_undo 31 = .ok (.aload_n 0, 1) := by decide +kernel
theorem dX6_undo_32 : decode cX6_undo 32 = .ok (.getfield 27, 3) := by decide +kernel
theorem dX6_undo_35 : decode cX6_undo 35 = .ok (.aload_n 0, 1) := by decide +kernel
theorem dX6_undo_36 : decode cX6_undo 36 = .ok (.getfield 174, 3) := by decide +kernel
theorem dX6_undo_39 : decode cX6_undo 39 = .ok (.aaload, 1) := by decide +kernel
theorem dX6_undo_40 : decode cX6_undo 40 = .ok (.invokevirtual 179, 3) := by decide +kernel
theorem dX6_undo_43 : decode cX6_undo 43 = .ok (.aload_n 0, 1) := by decide +kernel
theorem dX6_undo_44 : decode cX6_undo 44 = .ok (.getfield 174, 3) := by decide +kernel
theorem dX6_undo_47 : decode cX6_undo 47 = .ok (.ireturn, 1) := by decide +kernel
set_option maxRecDepth 20000 in
theorem ggX6_keep_X0_copyFrom : GoodIn wsX6_keep wsX0_copyFrom := goodIn_r _ [10, 11, 12, 13, 14, 15, 16, 17, 18, 19, 20, 21, 22, 23, 24, 25, 26, 27, 28, 29, 30, 31, 32, 33, 34, 35, 36, 37, 38, 39, 40, 41, 42, 43, 44, 45, 46, 47, 48, 49, 59, 60, 61, 62, 63, 64, 65, 66, 67, 68, 69, 70, 71, 72, 73, 74, 75, 76, 77, 78, 79, 80, 81, 82, 83] (by decide +kernel) (by decide +kernel)
set_option maxRecDepth 20000 in
theorem gX6_keep_X0_copyFrom : GoodIn wsX6_keep (wsV RX6 179 RX0 yX0_copyFrom wsX0_copyFrom) := goodIn_app (goodIn_of _ (by decide +kernel)) ggX6_keep_X0_copyFrom
theorem dX6_keep_0 : decode cX6_keep 0 = .ok (.aload_n 0, 1) := by decide +kernel
theorem dX6_keep_1 : decode cX6_keep 1 = .ok (.getfield 21, 3) := by decide +kernel
theorem dX6_keep_4 : decode cX6_keep 4 = .ok (.aload_n 0, 1) := by decide +kernel
theorem dX6_keep_5 : decode cX6_keep 5 = .ok (.getfield 15, 3) := by decide +kernel
theorem dX6_keep_8 : decode cX6_keep 8 = .ok (.invokevirtual 179, 3) := by decide +kernel
theorem dX6_keep_11 : decode cX6_keep 11 = .ok (.aload_n 0, 1) := by decide +kernel
theorem dX6_keep_12 : decode cX6_keep 12 = .ok (.iconst 1, 1) := by decide +kernel
theorem dX6_keep_13 : decode cX6_keep 13 = .ok (.putfield 183, 3) := by decide +kernel
theorem dX6_keep_16 : decode cX6_keep 16 = .ok (.aload_n 0, 1) := by decide +kernel
theorem dX6_keep_17 : decode cX6_keep 17 = .ok (.getfield 15, 3) := by decide +kernel
theorem dX6_keep_20 : decode cX6_keep 20 = .ok (.getfield 187, 3) := by decide +kernel
theorem dX6_keep_23 : decode cX6_keep 23 = .ok (.getfield 191, 3) := by decide +kernel
theorem dX6_keep_26 : decode cX6_keep 26 = .ok (.ireturn, 1) := by decide +kernel
set_option maxRecDepth 20000 in
theorem ggX6_restore_X6_saveState : GoodIn wsX6_restore wsX6_saveState := goodIn_r _ [12, 13, 14, 4, 15, 16, 17, 18, 19, 20, 21, 22, 23, 24, 25, 26, 27, 28, 29, 30, 31, 32, 33, 34, 35, 36, 37, 38, 39, 40, 41, 42, 43, 44, 45, 46, 47, 48, 49, 50, 51, 52, 53, 54, 55, 56, 57, 58, 59, 60, 61, 62, 63, 64, 65, 66, 67, 68, 69, 70, 71, 72, 73, 74, 75, 76, 77, 78, 79, 80, 81, 82, 83, 84, 85, 86, 87, 88, 89, 90, 91, 92] (by decide +kernel) (by decide +kernel)
set_option maxRecDepth 20000 in
theorem gX6_restore_X6_saveState : GoodIn wsX6_restore (wsV RX6 71 RX6 yX6_saveState wsX6_saveState) := goodIn_app (goodIn_of _ (by decide +kernel)) ggX6_restore_X6_saveState
set_option maxRecDepth 20000 in
theorem ggX6_restore_X0_copyFrom : GoodIn wsX6_restore wsX0_copyFrom := goodIn_r _ [19, 20, 21, 22, 23, 24, 25, 26, 27, 28, 29, 30, 31, 32, 33, 34, 35, 36, 37, 38, 39, 40, 41, 42, 43, 44, 45, 46, 47, 48, 49, 50, 51, 52, 53, 54, 55, 56, 57, 58, 68, 69, 70, 71, 72, 73, 74, 75, 76, 77, 78, 79, 80, 81, 82, 83, 84, 85, 86, 87, 88, 89, 90, 91, 92] (by decide +kernel) (by decide +kernel)
set_option maxRecDepth 20000 in
theorem gX6_restore_X0_copyFrom : GoodIn wsX6_restore (wsV RX6 179 RX0 yX0_copyFrom wsX0_copyFrom) := goodIn_app (goodIn_of _ (by decide +kernel)) ggX6_restore_X0_copyFrom
theorem dX6_restore_0 : decode cX6_restore 0 = .ok (.aload_n 0, 1) := by decide +kernel
theorem dX6_restore_1 : decode cX6_restore 1 = .ok (.getfield 183, 3) := by decide +kernel
theorem dX6_restore_4 : decode cX6_restore 4 = .ok (.ifCond .ne 13, 3) := by decide +kernel
theorem dX6_restore_7 : decode cX6_restore 7 = .ok (.new 64, 3) := by decide +kernel
theorem dX6_restore_10 : decode cX6_restore 10 = .ok (.dup, 1) := by decide +kernel
theorem dX6_restore_11 : decode cX6_restore 11 = .ok (.ldc 194, 2) := by decide +kernel
theorem dX6_restore_13 : decode cX6_restore 13 = .ok (.invokespecial 68, 3) := by decide +kernel
theorem dX6_restore_16 : decode cX6_restore 16 = .ok (.athrow, 1) := by decide +kernel
theorem dX6_restore_17 : decode cX6_restore 17 = .ok (.aload_n 0, 1) := by decide +kernel
theorem dX6_restore_18 : decode cX6_restore 18 = .ok (.invokevirtual 71, 3) := by decide +kernel
theorem dX6_restore_21 : decode cX6_restore 21 = .ok (.aload_n 0, 1) := by decide +kernel
theorem dX6_restore_22 : decode cX6_restore 22 = .ok (.getfield 15, 3) := by decide +kernel
theorem dX6_restore_25 : decode cX6_restore 25 = .ok (.aload_n 0, 1) := by decide +kernel
theorem dX6_restore_26 : decode cX6_restore 26 = .ok (.getfield 21, 3) := by decide +kernel
theorem dX6_restore_29 : decode cX6_restore 29 = .ok (.invokevirtual 179, 3) := by decide +kernel
theorem dX6_restore_32 : decode cX6_restore 32 = .ok (.aload_n 0, 1) := by decide +kernel
theorem dX6_restore_33 : decode cX6_restore 33 = .ok (.getfield 15, 3) := by decide +kernel
theorem dX6_restore_36 : decode cX6_restore 36 = .ok (.getfield 187, 3) := by decide +kernel
theorem dX6_restore_39 : decode cX6_restore 39 = .ok (.getfield 191, 3) := by decide +kernel
theorem dX6_restore_42 : decode cX6_restore 42 = .ok (.ireturn, 1) := by decide +kernel
set_option maxRecDepth 20000 in
theorem ggX6_tuft_X6_checkTuft : GoodIn wsX6_tuft wsX6_checkTuft := goodIn_ca (goodIn_r _ [7, 8, 9] (by decide +kernel) (by decide +kernel)) (goodIn_sub (fun _ h => List.mem_cons_of_mem _ (List.mem_append_left _ (List.mem_append_right _ h))) (by decide +kernel))
set_option maxRecDepth 20000 in
theorem gX6_tuft_X6_checkTuft : GoodIn wsX6_tuft (wsV RX6 52 RX6 yX6_checkTuft wsX6_checkTuft) := goodIn_app (goodIn_of _ (by decide +kernel)) ggX6_tuft_X6_checkTuft
set_option maxRecDepth 20000 in
theorem ggX6_tuft_X6_checkWhat : GoodIn wsX6_tuft wsX6_checkWhat := goodIn_ca (goodIn_r _ [13, 14, 15] (by decide +kernel) (by decide +kernel)) (goodIn_sub (fun _ h => List.mem_cons_of_mem _ (List.mem_append_right _ h)) (by decide +kernel))
set_option maxRecDepth 20000 in
theorem gX6_tuft_X6_checkWhat : GoodIn wsX6_tuft (wsV RX6 196 RX6 yX6_checkWhat wsX6_checkWhat) := goodIn_app (goodIn_of _ (by decide +kernel)) ggX6_tuft_X6_checkWhat
set_option maxRecDepth 20000 in
theorem ggX6_tuft_X4_read : GoodIn wsX6_tuft wsX4_read := goodIn_r _ [20, 21, 22, 23, 24, 25, 26, 27, 28, 29, 30, 19, 31, 32, 33, 34, 35, 36, 37, 38, 39, 40, 41, 42, 43, 44, 45, 46, 47, 48, 49, 50, 51, 52, 53, 54, 55, 56, 57, 58, 59, 60, 61, 62, 63, 64, 6, 65, 66, 67, 68, 69, 70, 71, 72, 73, 74, 110, 111, 112, 113, 114, 115, 116, 117, 118, 119, 120, 121, 122, 123, 124, 125, 126, 127, 128, 129, 130, 131, 132, 133, 134, 135, 136, 137, 138] (by decide +kernel) (by decide +kernel)
set_option maxRecDepth 20000 in
theorem gX6_tuft_X4_read : GoodIn wsX6_tuft (wsV RX6 200 RX4 yX4_read wsX4_read) := goodIn_app (goodIn_of _ (by decide +kernel)) ggX6_tuft_X4_read
set_option maxRecDepth 20000 in
theorem ggX6_tuft_X6_numberOfTuft : GoodIn wsX6_tuft wsX6_numberOfTuft := goodIn_r _ [78, 2, 79, 80, 81, 1, 82, 83, 84, 85, 86, 61, 62, 19, 63, 64, 6, 65, 66, 67, 68, 69, 70, 87, 88, 89, 90, 91, 92, 93, 94, 95, 96, 97, 98, 99, 100, 101, 102, 103, 104, 105, 106, 107, 108, 109, 114, 115, 116, 117, 118, 119, 120, 121, 122, 123, 124, 125, 126, 127, 110, 111, 112, 113, 132, 133, 134, 135, 136, 137, 138] (by decide +kernel) (by decide +kernel)
set_option maxRecDepth 20000 in
theorem gX6_tuft_X6_numberOfTuft : GoodIn wsX6_tuft (wsV RX6 203 RX6 yX6_numberOfTuft wsX6_numberOfTuft) := goodIn_app (goodIn_of _ (by decide +kernel)) ggX6_tuft_X6_numberOfTuft
theorem dX6_tuft_0 : decode cX6_tuft 0 = .ok (.aload_n 0, 1) := by decide +kernel
theorem dX6_tuft_1 : decode cX6_tuft 1 = .ok (.iload_n 1, 1) := by decide +kernel
theorem dX6_tuft_2 : decode cX6_tuft 2 = .ok (.invokevirtual 52, 3) := by decide +kernel
theorem dX6_tuft_5 : decode cX6_tuft 5 = .ok (.aload_n 0, 1) := by decide +kernel
theorem dX6_tuft_6 : decode cX6_tuft 6 = .ok (.iload_n 2, 1) := by decide +kernel
theorem dX6_tuft_7 : decode cX6_tuft 7 = .ok (.bipush 8, 2) := by decide +kernel
theorem dX6_tuft_9 : decode cX6_tuft 9 = .ok (.invokevirtual 196, 3) := by decide +kernel
theorem dX6_tuft_12 : decode cX6_tuft 12 = .ok (.aload_n 0, 1) := by decide +kernel
theorem dX6_tuft_13 : decode cX6_tuft 13 = .ok (.getfield 41, 3) := by decide +kernel
theorem dX6_tuft_16 : decode cX6_tuft 16 = .ok (.aload_n 0, 1) := by decide +kernel
theorem dX6_tuft_17 : decode cX6_tuft 17 = .ok (.getfield 15, 3) := by decide +kernel
theorem dX6_tuft_20 : decode cX6_tuft 20 = .ok (.invokevirtual 200, 3) := by decide +kernel
theorem dX6_tuft_23 : decode cX6_tuft 23 = .ok (.aload_n 0, 1) := by decide +kernel
theorem dX6_tuft_24 : decode cX6_tuft 24 = .ok (.iload_n 1, 1) := by decide +kernel
theorem dX6_tuft_25 : decode cX6_tuft 25 = .ok (.iload_n 2, 1) := by decide +kernel
theorem dX6_tuft_26 : decode cX6_tuft 26 = .ok (.invokevirtual 203, 3) := by decide +kernel
theorem dX6_tuft_29 : decode cX6_tuft 29 = .ok (.ireturn, 1) := by decide +kernel
set_option maxRecDepth 20000 in
theorem ggX6_moleOf_X6_checkMole : GoodIn wsX6_moleOf wsX6_checkMole := goodIn_ca (goodIn_r _ [7, 8, 9, 1, 10, 32, 33, 34, 35, 36, 37, 38, 39, 40, 41, 42, 43, 44, 45, 46, 47, 48, 49, 50, 51, 52, 53, 54] (by decide +kernel) (by decide +kernel)) (goodIn_sub (fun _ h => List.mem_cons_of_mem _ (List.mem_append_left _ (List.mem_append_right _ h))) (by decide +kernel))
set_option maxRecDepth 20000 in
theorem gX6_moleOf_X6_checkMole : GoodIn wsX6_moleOf (wsV RX6 78 RX6 yX6_checkMole wsX6_checkMole) := goodIn_app (goodIn_of _ (by decide +kernel)) ggX6_moleOf_X6_checkMole
set_option maxRecDepth 20000 in
theorem ggX6_moleOf_X6_checkWhat : GoodIn wsX6_moleOf wsX6_checkWhat := goodIn_ca (goodIn_r _ [14, 15, 16] (by decide +kernel) (by decide +kernel)) (goodIn_sub (fun _ h => List.mem_cons_of_mem _ (List.mem_append_right _ h)) (by decide +kernel))
set_option maxRecDepth 20000 in
theorem gX6_moleOf_X6_checkWhat : GoodIn wsX6_moleOf (wsV RX6 196 RX6 yX6_checkWhat wsX6_checkWhat) := goodIn_app (goodIn_of _ (by decide +kernel)) ggX6_moleOf_X6_checkWhat
set_option maxRecDepth 20000 in
theorem ggX6_moleOf_X1_number : GoodIn wsX6_moleOf wsX1_number := goodIn_r _ [21, 22, 23, 24, 25, 26, 27, 28, 29, 30, 20, 31, 55, 56, 57, 58, 59, 60, 61] (by decide +kernel) (by decide +kernel)
set_option maxRecDepth 20000 in
theorem gX6_moleOf_X1_number : GoodIn wsX6_moleOf (wsV RX6 207 RX1 yX1_number wsX1_number) := goodIn_app (goodIn_of _ (by decide +kernel)) ggX6_moleOf_X1_number
theorem dX6_moleOf_0 : decode cX6_moleOf 0 = .ok (.aload_n 0, 1) := by decide +kernel
theorem dX6_moleOf_1 : decode cX6_moleOf 1 = .ok (.iload_n 1, 1) := by decide +kernel
theorem dX6_moleOf_2 : decode cX6_moleOf 2 = .ok (.invokevirtual 78, 3) := by decide +kernel
theorem dX6_moleOf_5 : decode cX6_moleOf 5 = .ok (.aload_n 0, 1) := by decide +kernel
theorem dX6_moleOf_6 : decode cX6_moleOf 6 = .ok (.iload_n 2, 1) := by decide +kernel
theorem dX6_moleOf_7 : decode cX6_moleOf 7 = .ok (.bipush 6, 2) := by decide +kernel
theorem dX6_moleOf_9 : decode cX6_moleOf 9 = .ok (.invokevirtual 196, 3) := by decide +kernel
theorem dX6_moleOf_12 : decode cX6_moleOf 12 = .ok (.aload_n 0, 1) := by decide +kernel
theorem dX6_moleOf_13 : decode cX6_moleOf 13 = .ok (.getfield 15, 3) := by decide +kernel
theorem dX6_moleOf_16 : decode cX6_moleOf 16 = .ok (.getfield 86, 3) := by decide +kernel
theorem dX6_moleOf_19 : decode cX6_moleOf 19 = .ok (.iload_n 1, 1) := by decide +kernel
theorem dX6_moleOf_20 : decode cX6_moleOf 20 = .ok (.aaload, 1) := by decide +kernel
theorem dX6_moleOf_21 : decode cX6_moleOf 21 = .ok (.iload_n 2, 1) := by decide +kernel
theorem dX6_moleOf_22 : decode cX6_moleOf 22 = .ok (.invokevirtual 207, 3) := by decide +kernel
theorem dX6_moleOf_25 : decode cX6_moleOf 25 = .ok (.ireturn, 1) := by decide +kernel
set_option maxRecDepth 20000 in
theorem ggX6_tunnel_X6_checkTunnel : GoodIn wsX6_tunnel wsX6_checkTunnel := goodIn_ca (goodIn_r _ [7, 8, 9, 1, 2, 10, 45, 46, 47, 48, 49, 50, 51, 52, 53, 54, 55, 56, 57, 58, 59, 60, 61, 62, 63, 64, 65, 66, 67, 68, 69, 70, 71] (by decide +kernel) (by decide +kernel)) (goodIn_sub (fun _ h => List.mem_cons_of_mem _ (List.mem_append_left _ (List.mem_append_right _ h))) (by decide +kernel))
set_option maxRecDepth 20000 in
theorem gX6_tunnel_X6_checkTunnel : GoodIn wsX6_tunnel (wsV RX6 210 RX6 yX6_checkTunnel wsX6_checkTunnel) := goodIn_app (goodIn_of _ (by decide +kernel)) ggX6_tunnel_X6_checkTunnel
set_option maxRecDepth 20000 in
theorem ggX6_tunnel_X6_checkWhat : GoodIn wsX6_tunnel wsX6_checkWhat := goodIn_ca (goodIn_r _ [14, 15, 16] (by decide +kernel) (by decide +kernel)) (goodIn_sub (fun _ h => List.mem_cons_of_mem _ (List.mem_append_right _ h)) (by decide +kernel))
set_option maxRecDepth 20000 in
theorem gX6_tunnel_X6_checkWhat : GoodIn wsX6_tunnel (wsV RX6 196 RX6 yX6_checkWhat wsX6_checkWhat) := goodIn_app (goodIn_of _ (by decide +kernel)) ggX6_tunnel_X6_checkWhat
set_option maxRecDepth 20000 in
theorem ggX6_tunnel_X3_number : GoodIn wsX6_tunnel wsX3_number := goodIn_r _ [21, 22, 23, 24, 20, 25, 26, 27, 28, 29, 30, 31, 32, 33, 34, 35, 36, 37, 38, 39, 40, 41, 42, 43, 44, 68, 69, 70, 71] (by decide +kernel) (by decide +kernel)
set_option maxRecDepth 20000 in
theorem gX6_tunnel_X3_number : GoodIn wsX6_tunnel (wsV RX6 213 RX3 yX3_number wsX3_number) := goodIn_app (goodIn_of _ (by decide +kernel)) ggX6_tunnel_X3_number
theorem dX6_tunnel_0 : decode cX6_tunnel 0 = .ok (.aload_n 0, 1) := by decide +kernel
theorem dX6_tunnel_1 : decode cX6_tunnel 1 = .ok (.iload_n 1, 1) := by decide +kernel
theorem dX6_tunnel_2 : decode cX6_tunnel 2 = .ok (.invokevirtual 210, 3) := by decide +kernel
theorem dX6_tunnel_5 : decode cX6_tunnel 5 = .ok (.aload_n 0, 1) := by decide +kernel
theorem dX6_tunnel_6 : decode cX6_tunnel 6 = .ok (.iload_n 2, 1) := by decide +kernel
theorem dX6_tunnel_7 : decode cX6_tunnel 7 = .ok (.iconst 2, 1) := by decide +kernel
theorem dX6_tunnel_8 : decode cX6_tunnel 8 = .ok (.invokevirtual 196, 3) := by decide +kernel
theorem dX6_tunnel_11 : decode cX6_tunnel 11 = .ok (.aload_n 0, 1) := by decide +kernel
theorem dX6_tunnel_12 : decode cX6_tunnel 12 = .ok (.getfield 15, 3) := by decide +kernel
theorem dX6_tunnel_15 : decode cX6_tunnel 15 = .ok (.getfield 187, 3) := by decide +kernel
theorem dX6_tunnel_18 : decode cX6_tunnel 18 = .ok (.iload_n 1, 1) := by decide +kernel
theorem dX6_tunnel_19 : decode cX6_tunnel 19 = .ok (.iload_n 2, 1) := by decide +kernel
theorem dX6_tunnel_20 : decode cX6_tunnel 20 = .ok (.invokevirtual 213, 3) := by decide +kernel
theorem dX6_tunnel_23 : decode cX6_tunnel 23 = .ok (.ireturn, 1) := by decide +kernel
set_option maxRecDepth 20000 in
theorem ggX6_cell_X6_checkTunnel : GoodIn wsX6_cell wsX6_checkTunnel := goodIn_ca (goodIn_r _ [9, 10, 11, 3, 4, 12, 29, 30, 31, 32, 33, 34, 35, 36, 37, 38, 39, 40, 41, 42, 43, 44, 45, 46, 47, 48, 49, 50, 51, 52, 53, 54, 55] (by decide +kernel) (by decide +kernel)) (goodIn_sub (fun _ h => List.mem_cons_of_mem _ (List.mem_append_right _ h)) (by decide +kernel))
set_option maxRecDepth 20000 in
theorem gX6_cell_X6_checkTunnel : GoodIn wsX6_cell (wsV RX6 210 RX6 yX6_checkTunnel wsX6_checkTunnel) := goodIn_app (goodIn_of _ (by decide +kernel)) ggX6_cell_X6_checkTunnel
set_option maxRecDepth 20000 in
theorem ggX6_cell_X3_at : GoodIn wsX6_cell wsX3_at := goodIn_r _ [17, 18, 19, 20, 21, 16, 22, 23, 24, 25, 26, 27, 28, 52, 53, 54, 55] (by decide +kernel) (by decide +kernel)
set_option maxRecDepth 20000 in
theorem gX6_cell_X3_at : GoodIn wsX6_cell (wsV RX6 217 RX3 yX3_at wsX3_at) := goodIn_app (goodIn_of _ (by decide +kernel)) ggX6_cell_X3_at
theorem dX6_cell_0 : decode cX6_cell 0 = .ok (.aload_n 0, 1) := by decide +kernel
theorem dX6_cell_1 : decode cX6_cell 1 = .ok (.iload_n 1, 1) := by decide +kernel
theorem dX6_cell_2 : decode cX6_cell 2 = .ok (.invokevirtual 210, 3) := by decide +kernel
theorem dX6_cell_5 : decode cX6_cell 5 = .ok (.iload_n 2, 1) := by decide +kernel
theorem dX6_cell_6 : decode cX6_cell 6 = .ok (.ifCond .ge 13, 3) := by decide +kernel
theorem dX6_cell_9 : decode cX6_cell 9 = .ok (.new 81, 3) := by decide +kernel
theorem dX6_cell_12 : decode cX6_cell 12 = .ok (.dup, 1) := by decide +kernel
theorem dX6_cell_13 : decode cX6_cell 13 = .ok (.ldc 215, 2) := by decide +kernel
theorem dX6_cell_15 : decode cX6_cell 15 = .ok (.invokespecial 85, 3) := by decide +kernel
theorem dX6_cell_18 : decode cX6_cell 18 = .ok (.athrow, 1) := by decide +kernel
theorem dX6_cell_19 : decode cX6_cell 19 = .ok (.aload_n 0, 1) := by decide +kernel
theorem dX6_cell_20 : decode cX6_cell 20 = .ok (.getfield 15, 3) := by decide +kernel
theorem dX6_cell_23 : decode cX6_cell 23 = .ok (.getfield 187, 3) := by decide +kernel
theorem dX6_cell_26 : decode cX6_cell 26 = .ok (.iload_n 1, 1) := by decide +kernel
theorem dX6_cell_27 : decode cX6_cell 27 = .ok (.iload_n 2, 1) := by decide +kernel
theorem dX6_cell_28 : decode cX6_cell 28 = .ok (.invokevirtual 217, 3) := by decide +kernel
theorem dX6_cell_31 : decode cX6_cell 31 = .ok (.ireturn, 1) := by decide +kernel
set_option maxRecDepth 20000 in
theorem ggX6_count_X6_checkWhat : GoodIn wsX6_count wsX6_checkWhat := goodIn_ca (goodIn_r _ [7, 8, 9] (by decide +kernel) (by decide +kernel)) (goodIn_sub (fun _ h => List.mem_cons_of_mem _ (List.mem_append_right _ h)) (by decide +kernel))
set_option maxRecDepth 20000 in
theorem gX6_count_X6_checkWhat : GoodIn wsX6_count (wsV RX6 196 RX6 yX6_checkWhat wsX6_checkWhat) := goodIn_app (goodIn_of _ (by decide +kernel)) ggX6_count_X6_checkWhat
set_option maxRecDepth 20000 in
theorem ggX6_count_X4_read : GoodIn wsX6_count wsX4_read := goodIn_r _ [14, 15, 16, 17, 18, 19, 20, 21, 22, 23, 24, 13, 25, 26, 27, 28, 29, 30, 31, 32, 33, 34, 35, 36, 37, 38, 39, 40, 41, 42, 43, 44, 45, 46, 47, 48, 49, 50, 51, 52, 53, 54, 55, 56, 57, 58, 6, 59, 60, 61, 62, 63, 64, 65, 66, 67, 68, 149, 150, 151, 152, 153, 154, 155, 156, 157, 158, 159, 160, 161, 162, 163, 164, 165, 166, 167, 168, 169, 170, 171, 172, 173, 174, 175, 176, 177] (by decide +kernel) (by decide +kernel)
set_option maxRecDepth 20000 in
theorem gX6_count_X4_read : GoodIn wsX6_count (wsV RX6 200 RX4 yX4_read wsX4_read) := goodIn_app (goodIn_of _ (by decide +kernel)) ggX6_count_X4_read
set_option maxRecDepth 20000 in
theorem ggX6_count_X6_numberOfAll : GoodIn wsX6_count wsX6_numberOfAll := goodIn_r _ [72, 2, 73, 74, 75, 76, 77, 1, 78, 79, 80, 81, 82, 83, 84, 85, 86, 87, 88, 89, 90, 91, 92, 13, 93, 15, 94, 95, 96, 97, 98, 99, 100, 101, 102, 103, 104, 105, 106, 107, 108, 109, 110, 111, 112, 113, 114, 115, 116, 117, 118, 119, 120, 30, 121, 122, 123, 124, 125, 126, 127, 28, 29, 31, 32, 33, 128, 35, 36, 37, 129, 130, 131, 132, 133, 134, 135, 136, 137, 138, 139, 140, 141, 142, 143, 144, 145, 146, 147, 148, 153, 154, 155, 156, 157, 158, 159, 160, 161, 162, 163, 164, 165, 166, 167, 168, 169, 170, 149, 150, 151, 152, 178, 179] (by decide +kernel) (by decide +kernel)
set_option maxRecDepth 20000 in
theorem gX6_count_X6_numberOfAll : GoodIn wsX6_count (wsV RX6 220 RX6 yX6_numberOfAll wsX6_numberOfAll) := goodIn_app (goodIn_of _ (by decide +kernel)) ggX6_count_X6_numberOfAll
theorem dX6_count_0 : decode cX6_count 0 = .ok (.aload_n 0, 1) := by decide +kernel
theorem dX6_count_1 : decode cX6_count 1 = .ok (.iload_n 1, 1) := by decide +kernel
theorem dX6_count_2 : decode cX6_count 2 = .ok (.bipush 14, 2) := by decide +kernel
theorem dX6_count_4 : decode cX6_count 4 = .ok (.invokevirtual 196, 3) := by decide +kernel
theorem dX6_count_7 : decode cX6_count 7 = .ok (.aload_n 0, 1) := by decide +kernel
theorem dX6_count_8 : decode cX6_count 8 = .ok (.getfield 41, 3) := by decide +kernel
theorem dX6_count_11 : decode cX6_count 11 = .ok (.aload_n 0, 1) := by decide +kernel
theorem dX6_count_12 : decode cX6_count 12 = .ok (.getfield 15, 3) := by decide +kernel
theorem dX6_count_15 : decode cX6_count 15 = .ok (.invokevirtual 200, 3) := by decide +kernel
theorem dX6_count_18 : decode cX6_count 18 = .ok (.aload_n 0, 1) := by decide +kernel
theorem dX6_count_19 : decode cX6_count 19 = .ok (.iload_n 1, 1) := by decide +kernel
theorem dX6_count_20 : decode cX6_count 20 = .ok (.invokevirtual 220, 3) := by decide +kernel
theorem dX6_count_23 : decode cX6_count 23 = .ok (.ireturn, 1) := by decide +kernel
set_option maxRecDepth 20000 in
theorem ggX6_joined_X6_checkTuft : GoodIn wsX6_joined wsX6_checkTuft := goodIn_ca (goodIn_r _ [8, 9, 10] (by decide +kernel) (by decide +kernel)) (goodIn_sub (fun _ h => List.mem_cons_of_mem _ (List.mem_append_right _ h)) (by decide +kernel))
set_option maxRecDepth 20000 in
theorem gX6_joined_X6_checkTuft : GoodIn wsX6_joined (wsV RX6 52 RX6 yX6_checkTuft wsX6_checkTuft) := goodIn_app (goodIn_of _ (by decide +kernel)) ggX6_joined_X6_checkTuft
set_option maxRecDepth 20000 in
theorem ggX6_joined_X2_measure : GoodIn wsX6_joined wsX2_measure := goodIn_r _ [15, 16, 17, 18, 19, 20, 21, 22, 23, 24, 25, 26, 27, 28, 29, 30, 31, 32, 33, 34, 35, 36, 37, 38, 39, 40, 41, 42, 43, 44, 45, 14, 46, 47, 48, 49, 50, 60, 61, 62, 63, 64, 65, 66, 67, 68, 69, 70, 71, 72, 73, 74, 75, 76, 77, 78, 79] (by decide +kernel) (by decide +kernel)
set_option maxRecDepth 20000 in
theorem gX6_joined_X2_measure : GoodIn wsX6_joined (wsV RX6 223 RX2 yX2_measure wsX2_measure) := goodIn_app (goodIn_of _ (by decide +kernel)) ggX6_joined_X2_measure
theorem dX6_joined_0 : decode cX6_joined 0 = .ok (.aload_n 0, 1) := by decide +kernel
theorem dX6_joined_1 : decode cX6_joined 1 = .ok (.iload_n 1, 1) := by decide +kernel
theorem dX6_joined_2 : decode cX6_joined 2 = .ok (.invokevirtual 52, 3) := by decide +kernel
theorem dX6_joined_5 : decode cX6_joined 5 = .ok (.aload_n 0, 1) := by decide +kernel
theorem dX6_joined_6 : decode cX6_joined 6 = .ok (.iload_n 2, 1) := by decide +kernel
theorem dX6_joined_7 : decode cX6_joined 7 = .ok (.invokevirtual 52, 3) := by decide +kernel
theorem dX6_joined_10 : decode cX6_joined 10 = .ok (.aload_n 0, 1) := by decide +kernel
theorem dX6_joined_11 : decode cX6_joined 11 = .ok (.getfield 48, 3) := by decide +kernel
theorem dX6_joined_14 : decode cX6_joined 14 = .ok (.aload_n 0, 1) := by decide +kernel
theorem dX6_joined_15 : decode cX6_joined 15 = .ok (.getfield 15, 3) := by decide +kernel
theorem dX6_joined_18 : decode cX6_joined 18 = .ok (.iload_n 1, 1) := by decide +kernel
theorem dX6_joined_19 : decode cX6_joined 19 = .ok (.invokevirtual 223, 3) := by decide +kernel
theorem dX6_joined_22 : decode cX6_joined 22 = .ok (.aload_n 0, 1) := by decide +kernel
theorem dX6_joined_23 : decode cX6_joined 23 = .ok (.getfield 48, 3) := by decide +kernel
theorem dX6_joined_26 : decode cX6_joined 26 = .ok (.getfield 227, 3) := by decide +kernel
theorem dX6_joined_29 : decode cX6_joined 29 = .ok (.iload_n 2, 1) := by decide +kernel
theorem dX6_joined_30 : decode cX6_joined 30 = .ok (.iaload, 1) := by decide +kernel
theorem dX6_joined_31 : decode cX6_joined 31 = .ok (.iconst (-1), 1) := by decide +kernel
theorem dX6_joined_32 : decode cX6_joined 32 = .ok (.if_icmp .ne 7, 3) := by decide +kernel
theorem dX6_joined_35 : decode cX6_joined 35 = .ok (.iconst 0, 1) := by decide +kernel
theorem dX6_joined_36 : decode cX6_joined 36 = .ok (.goto 4, 3) := by decide +kernel
theorem dX6_joined_39 : decode cX6_joined 39 = .ok (.iconst 1, 1) := by decide +kernel
theorem dX6_joined_40 : decode cX6_joined 40 = .ok (.ireturn, 1) := by decide +kernel
set_option maxRecDepth 20000 in
theorem ggX6_fewest_X6_checkTuft : GoodIn wsX6_fewest wsX6_checkTuft := goodIn_ca (goodIn_r _ [8, 9, 10] (by decide +kernel) (by decide +kernel)) (goodIn_sub (fun _ h => List.mem_cons_of_mem _ (List.mem_append_right _ h)) (by decide +kernel))
set_option maxRecDepth 20000 in
theorem gX6_fewest_X6_checkTuft : GoodIn wsX6_fewest (wsV RX6 52 RX6 yX6_checkTuft wsX6_checkTuft) := goodIn_app (goodIn_of _ (by decide +kernel)) ggX6_fewest_X6_checkTuft
set_option maxRecDepth 20000 in
theorem ggX6_fewest_X2_measure : GoodIn wsX6_fewest wsX2_measure := goodIn_r _ [15, 16, 17, 18, 19, 20, 21, 22, 23, 24, 25, 26, 27, 28, 29, 30, 31, 32, 33, 34, 35, 36, 37, 38, 39, 40, 41, 42, 43, 44, 45, 14, 46, 47, 48, 49, 50, 60, 61, 62, 63, 64, 65, 66, 67, 68, 69, 70, 71, 72, 73, 74, 75, 76, 77, 78, 79] (by decide +kernel) (by decide +kernel)
set_option maxRecDepth 20000 in
theorem gX6_fewest_X2_measure : GoodIn wsX6_fewest (wsV RX6 223 RX2 yX2_measure wsX2_measure) := goodIn_app (goodIn_of _ (by decide +kernel)) ggX6_fewest_X2_measure
theorem dX6_fewest_0 : decode cX6_fewest 0 = .ok (.aload_n 0, 1) := by decide +kernel
theorem dX6_fewest_1 : decode cX6_fewest 1 = .ok (.iload_n 1, 1) := by decide +kernel
theorem dX6_fewest_2 : decode cX6_fewest 2 = .ok (.invokevirtual 52, 3) := by decide +kernel
theorem dX6_fewest_5 : decode cX6_fewest 5 = .ok (.aload_n 0, 1) := by decide +kernel
theorem dX6_fewest_6 : decode cX6_fewest 6 = .ok (.iload_n 2, 1) := by decide +kernel
theorem dX6_fewest_7 : decode cX6_fewest 7 = .ok (.invokevirtual 52, 3) := by decide +kernel
theorem dX6_fewest_10 : decode cX6_fewest 10 = .ok (.aload_n 0, 1) := by decide +kernel
theorem dX6_fewest_11 : decode cX6_fewest 11 = .ok (.getfield 48, 3) := by decide +kernel
theorem dX6_fewest_14 : decode cX6_fewest 14 = .ok (.aload_n 0, 1) := by decide +kernel
theorem dX6_fewest_15 : decode cX6_fewest 15 = .ok (.getfield 15, 3) := by decide +kernel
theorem dX6_fewest_18 : decode cX6_fewest 18 = .ok (.iload_n 1, 1) := by decide +kernel
theorem dX6_fewest_19 : decode cX6_fewest 19 = .ok (.invokevirtual 223, 3) := by decide +kernel
theorem dX6_fewest_22 : decode cX6_fewest 22 = .ok (.aload_n 0, 1) := by decide +kernel
theorem dX6_fewest_23 : decode cX6_fewest 23 = .ok (.getfield 48, 3) := by decide +kernel
theorem dX6_fewest_26 : decode cX6_fewest 26 = .ok (.getfield 227, 3) := by decide +kernel
theorem dX6_fewest_29 : decode cX6_fewest 29 = .ok (.iload_n 2, 1) := by decide +kernel
theorem dX6_fewest_30 : decode cX6_fewest 30 = .ok (.iaload, 1) := by decide +kernel
theorem dX6_fewest_31 : decode cX6_fewest 31 = .ok (.ireturn, 1) := by decide +kernel
set_option maxRecDepth 20000 in
theorem ggX6_ifDug_X6_checkTuft : GoodIn wsX6_ifDug wsX6_checkTuft := goodIn_ca (goodIn_r _ [9, 10, 11] (by decide +kernel) (by decide +kernel)) (goodIn_sub (fun _ h => List.mem_cons_of_mem _ (List.mem_append_left _ (List.mem_append_right _ h))) (by decide +kernel))
set_option maxRecDepth 20000 in
theorem gX6_ifDug_X6_checkTuft : GoodIn wsX6_ifDug (wsV RX6 52 RX6 yX6_checkTuft wsX6_checkTuft) := goodIn_app (goodIn_of _ (by decide +kernel)) ggX6_ifDug_X6_checkTuft
set_option maxRecDepth 20000 in
theorem ggX6_ifDug_X6_checkWhat : GoodIn wsX6_ifDug wsX6_checkWhat := goodIn_ca (goodIn_r _ [15, 16, 17] (by decide +kernel) (by decide +kernel)) (goodIn_sub (fun _ h => List.mem_cons_of_mem _ (List.mem_append_right _ h)) (by decide +kernel))
set_option maxRecDepth 20000 in
theorem gX6_ifDug_X6_checkWhat : GoodIn wsX6_ifDug (wsV RX6 196 RX6 yX6_checkWhat wsX6_checkWhat) := goodIn_app (goodIn_of _ (by decide +kernel)) ggX6_ifDug_X6_checkWhat
set_option maxRecDepth 20000 in
theorem ggX6_ifDug_X0_copyFrom : GoodIn wsX6_ifDug wsX0_copyFrom := goodIn_r _ [22, 23, 24, 25, 26, 27, 28, 29, 30, 31, 32, 33, 34, 35, 36, 37, 38, 39, 40, 41, 42, 43, 44, 45, 46, 47, 48, 49, 50, 51, 52, 53, 54, 55, 56, 57, 58, 59, 60, 61, 197, 198, 199, 200, 201, 202, 203, 204, 205, 206, 207, 208, 209, 210, 211, 212, 213, 214, 215, 216, 217, 218, 219, 220, 221] (by decide +kernel) (by decide +kernel)
set_option maxRecDepth 20000 in
theorem gX6_ifDug_X0_copyFrom : GoodIn wsX6_ifDug (wsV RX6 179 RX0 yX0_copyFrom wsX0_copyFrom) := goodIn_app (goodIn_of _ (by decide +kernel)) ggX6_ifDug_X0_copyFrom
set_option maxRecDepth 20000 in
theorem ggX6_ifDug_X0_digUp : GoodIn wsX6_ifDug wsX0_digUp := goodIn_r _ [65, 28, 29, 30, 36, 32, 33, 23, 66, 67, 68, 53, 69, 61, 56, 70, 71, 72, 21, 73, 74, 75, 76, 77, 31, 78, 79, 80, 39, 81, 82, 83, 43, 84, 45, 46, 85, 86, 87, 88, 47, 89, 90, 91, 92, 49, 93, 94, 95, 96, 97, 98, 99, 100, 101, 102, 48, 25, 26, 27, 40, 41, 42, 44, 103, 104, 105, 106, 107, 34, 108, 109, 110, 111, 112, 113, 114, 115, 116, 117, 118, 119, 120, 38, 121, 122, 123, 124, 125, 126, 127, 128, 129, 130, 131, 132, 133, 197, 198, 199, 200, 201, 202, 203, 204, 205, 206, 207, 208, 209, 210, 215, 216, 217, 218, 219, 220, 221, 211, 212, 213, 214] (by decide +kernel) (by decide +kernel)
set_option maxRecDepth 20000 in
theorem gX6_ifDug_X0_digUp : GoodIn wsX6_ifDug (wsV RX6 122 RX0 yX0_digUp wsX0_digUp) := goodIn_app (goodIn_of _ (by decide +kernel)) ggX6_ifDug_X0_digUp
set_option maxRecDepth 20000 in
theorem ggX6_ifDug_X4_read : GoodIn wsX6_ifDug wsX4_read := goodIn_r _ [138, 139, 140, 141, 142, 143, 144, 145, 146, 147, 148, 137, 149, 150, 151, 90, 91, 43, 92, 46, 49, 152, 94, 95, 96, 153, 154, 155, 156, 157, 158, 159, 160, 161, 162, 163, 164, 165, 166, 167, 168, 169, 170, 171, 172, 173, 8, 174, 175, 176, 177, 178, 179, 180, 181, 182, 183, 222, 223, 224, 225, 197, 198, 199, 200, 201, 202, 203, 204, 205, 206, 207, 208, 209, 210, 211, 212, 213, 214, 215, 216, 217, 218, 219, 220, 221] (by decide +kernel) (by decide +kernel)
set_option maxRecDepth 20000 in
theorem gX6_ifDug_X4_read : GoodIn wsX6_ifDug (wsV RX6 200 RX4 yX4_read wsX4_read) := goodIn_app (goodIn_of _ (by decide +kernel)) ggX6_ifDug_X4_read
set_option maxRecDepth 20000 in
theorem ggX6_ifDug_X4_hollowCount : GoodIn wsX6_ifDug wsX4_hollowCount := goodIn_r _ [187, 139, 222, 223, 224, 225] (by decide +kernel) (by decide +kernel)
set_option maxRecDepth 20000 in
theorem gX6_ifDug_X4_hollowCount : GoodIn wsX6_ifDug (wsV RX6 233 RX4 yX4_hollowCount wsX4_hollowCount) := goodIn_app (goodIn_of _ (by decide +kernel)) ggX6_ifDug_X4_hollowCount
theorem dX6_ifDug_0 : decode cX6_ifDug 0 = .ok (.aload_n 0, 1) := by decide +kernel
theorem dX6_ifDug_1 : decode cX6_ifDug 1 = .ok (.iload_n 1, 1) := by decide +kernel
theorem dX6_ifDug_2 : decode cX6_ifDug 2 = .ok (.invokevirtual 52, 3) := by decide +kernel
theorem dX6_ifDug_5 : decode cX6_ifDug 5 = .ok (.aload_n 0, 1) := by decide +kernel
theorem dX6_ifDug_6 : decode cX6_ifDug 6 = .ok (.iload_n 2, 1) := by decide +kernel
theorem dX6_ifDug_7 : decode cX6_ifDug 7 = .ok (.iconst 2, 1) := by decide +kernel
theorem dX6_ifDug_8 : decode cX6_ifDug 8 = .ok (.invokevirtual 196, 3) := by decide +kernel
theorem dX6_ifDug_11 : decode cX6_ifDug 11 = .ok (.aload_n 0, 1) := by decide +kernel
theorem dX6_ifDug_12 : decode cX6_ifDug 12 = .ok (.getfield 24, 3) := by decide +kernel
theorem dX6_ifDug_15 : decode cX6_ifDug 15 = .ok (.aload_n 0, 1) := by decide +kernel
theorem dX6_ifDug_16 : decode cX6_ifDug 16 = .ok (.getfield 15, 3) := by decide +kernel
theorem dX6_ifDug_19 : decode cX6_ifDug 19 = .ok (.invokevirtual 179, 3) := by decide +kernel
theorem dX6_ifDug_22 : decode cX6_ifDug 22 = .ok (.aload_n 0, 1) := by decide +kernel
theorem dX6_ifDug_23 : decode cX6_ifDug 23 = .ok (.getfield 24, 3) := by decide +kernel
theorem dX6_ifDug_26 : decode cX6_ifDug 26 = .ok (.iload_n 1, 1) := by decide +kernel
theorem dX6_ifDug_27 : decode cX6_ifDug 27 = .ok (.invokevirtual 122, 3) := by decide +kernel
theorem dX6_ifDug_30 : decode cX6_ifDug 30 = .ok (.istore_n 3, 1) := by decide +kernel
theorem dX6_ifDug_31 : decode cX6_ifDug 31 = .ok (.iload_n 2, 1) := by decide +kernel
theorem dX6_ifDug_32 : decode cX6_ifDug 32 = .ok (.ifCond .ne 19, 3) := by decide +kernel
theorem dX6_ifDug_35 : decode cX6_ifDug 35 = .ok (.aload_n 0, 1) := by decide +kernel
theorem dX6_ifDug_36 : decode cX6_ifDug 36 = .ok (.getfield 24, 3) := by decide +kernel
theorem dX6_ifDug_39 : decode cX6_ifDug 39 = .ok (.getfield 230, 3) := by decide +kernel
theorem dX6_ifDug_42 : decode cX6_ifDug 42 = .ok (.aload_n 0, 1) := by decide +kernel
theorem dX6_ifDug_43 : decode cX6_ifDug 43 = .ok (.getfield 15, 3) := by decide +kernel
theorem dX6_ifDug_46 : decode cX6_ifDug 46 = .ok (.getfield 230, 3) := by decide +kernel
theorem dX6_ifDug_49 : decode cX6_ifDug 49 = .ok (.isub, 1) := by decide +kernel
theorem dX6_ifDug_50 : decode cX6_ifDug 50 = .ok (.ireturn, 1) := by decide +kernel
theorem dX6_ifDug_51 : decode cX6_ifDug 51 = .ok (.iload_n 2, 1) := by decide +kernel
theorem dX6_ifDug_52 : decode cX6_ifDug 52 = .ok (.iconst 1, 1) := by decide +kernel
theorem dX6_ifDug_53 : decode cX6_ifDug 53 = .ok (.if_icmp .ne 5, 3) := by decide +kernel
theorem dX6_ifDug_56 : decode cX6_ifDug 56 = .ok (.iload_n 3, 1) := by decide +kernel
theorem dX6_ifDug_57 : decode cX6_ifDug 57 = .ok (.ireturn, 1) := by decide +kernel
theorem dX6_ifDug_58 : decode cX6_ifDug 58 = .ok (.aload_n 0, 1) := by decide +kernel
theorem dX6_ifDug_59 : decode cX6_ifDug 59 = .ok (.getfield 41, 3) := by decide +kernel
theorem dX6_ifDug_62 : decode cX6_ifDug 62 = .ok (.aload_n 0, 1) := by decide +kernel
theorem dX6_ifDug_63 : decode cX6_ifDug 63 = .ok (.getfield 24, 3) := by decide +kernel
theorem dX6_ifDug_66 : decode cX6_ifDug 66 = .ok (.invokevirtual 200, 3) := by decide +kernel
theorem dX6_ifDug_69 : decode cX6_ifDug 69 = .ok (.aload_n 0, 1) := by decide +kernel
theorem dX6_ifDug_70 : decode cX6_ifDug 70 = .ok (.getfield 41, 3) := by decide +kernel
theorem dX6_ifDug_73 : decode cX6_ifDug 73 = .ok (.invokevirtual 233, 3) := by decide +kernel
theorem dX6_ifDug_76 : decode cX6_ifDug 76 = .ok (.ireturn, 1) := by decide +kernel
set_option maxRecDepth 20000 in
theorem ggX6_bestDig_X4_read : GoodIn wsX6_bestDig wsX4_read := goodIn_r _ [7, 8, 9, 10, 11, 12, 13, 14, 15, 16, 17, 6, 18, 19, 20, 21, 22, 23, 24, 25, 26, 27, 28, 29, 30, 31, 32, 33, 34, 35, 36, 37, 38, 39, 40, 41, 42, 43, 44, 45, 46, 47, 48, 49, 50, 51, 52, 53, 54, 55, 56, 57, 58, 59, 60, 61, 62, 78, 79, 80, 81, 82, 83, 84, 85, 86, 87, 88, 89, 90, 91, 92, 93, 94, 95, 96, 97, 98, 99, 100, 101, 102, 103, 104, 105, 106] (by decide +kernel) (by decide +kernel)
set_option maxRecDepth 20000 in
theorem gX6_bestDig_X4_read : GoodIn wsX6_bestDig (wsV RX6 200 RX4 yX4_read wsX4_read) := goodIn_app (goodIn_of _ (by decide +kernel)) ggX6_bestDig_X4_read
set_option maxRecDepth 20000 in
theorem ggX6_bestDig_X6_mostCrossed : GoodIn wsX6_bestDig wsX6_mostCrossed := goodIn_r _ [66, 2, 67, 1, 68, 69, 70, 71, 72, 73, 74, 75, 76, 77, 82, 83, 84, 85, 86, 87, 88, 89, 90, 91, 92, 93, 94, 95, 78, 79, 80, 81] (by decide +kernel) (by decide +kernel)
set_option maxRecDepth 20000 in
theorem gX6_bestDig_X6_mostCrossed : GoodIn wsX6_bestDig (wsV RX6 236 RX6 yX6_mostCrossed wsX6_mostCrossed) := goodIn_app (goodIn_of _ (by decide +kernel)) ggX6_bestDig_X6_mostCrossed
theorem dX6_bestDig_0 : decode cX6_bestDig 0 = .ok (.aload_n 0, 1) := by decide +kernel
theorem dX6_bestDig_1 : decode cX6_bestDig 1 = .ok (.getfield 41, 3) := by decide +kernel
theorem dX6_bestDig_4 : decode cX6_bestDig 4 = .ok (.aload_n 0, 1) := by decide +kernel
theorem dX6_bestDig_5 : decode cX6_bestDig 5 = .ok (.getfield 15, 3) := by decide +kernel
theorem dX6_bestDig_8 : decode cX6_bestDig 8 = .ok (.invokevirtual 200, 3) := by decide +kernel
theorem dX6_bestDig_11 : decode cX6_bestDig 11 = .ok (.aload_n 0, 1) := by decide +kernel
theorem dX6_bestDig_12 : decode cX6_bestDig 12 = .ok (.invokevirtual 236, 3) := by decide +kernel
theorem dX6_bestDig_15 : decode cX6_bestDig 15 = .ok (.ireturn, 1) := by decide +kernel
