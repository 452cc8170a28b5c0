theorem dX6_casesSo_23 : decode cX6_casesSo 23 = .ok (.if_icmp .ne 7, 3) := by decide +kernel
theorem dX6_casesSo_26 : decode cX6_casesSo 26 = .ok (.iconst 1, 1) := by decide +kernel
theorem dX6_casesSo_27 : decode cX6_casesSo 27 = .ok (.goto 4, 3) := by decide +kernel
theorem dX6_casesSo_30 : decode cX6_casesSo 30 = .ok (.iconst 0, 1) := by decide +kernel
theorem dX6_casesSo_31 : decode cX6_casesSo 31 = .ok (.invokestatic 11, 3) := by decide +kernel
theorem dX6_casesSo_34 : decode cX6_casesSo 34 = .ok (.ireturn, 1) := by decide +kernel
theorem dX6_casesSo_35 : decode cX6_casesSo 35 = .ok (.iload_n 2, 1) := by decide +kernel
theorem dX6_casesSo_36 : decode cX6_casesSo 36 = .ok (.iload_n 3, 1) := by decide +kernel
theorem dX6_casesSo_37 : decode cX6_casesSo 37 = .ok (.if_icmp .ne 7, 3) := by decide +kernel
theorem dX6_casesSo_40 : decode cX6_casesSo 40 = .ok (.iconst 1, 1) := by decide +kernel
theorem dX6_casesSo_41 : decode cX6_casesSo 41 = .ok (.goto 4, 3) := by decide +kernel
theorem dX6_casesSo_44 : decode cX6_casesSo 44 = .ok (.iconst 0, 1) := by decide +kernel
theorem dX6_casesSo_45 : decode cX6_casesSo 45 = .ok (.invokestatic 11, 3) := by decide +kernel
theorem dX6_casesSo_48 : decode cX6_casesSo 48 = .ok (.istore 4, 2) := by decide +kernel
theorem dX6_casesSo_50 : decode cX6_casesSo 50 = .ok (.iload_n 0, 1) := by decide +kernel
theorem dX6_casesSo_51 : decode cX6_casesSo 51 = .ok (.iconst 5, 1) := by decide +kernel
theorem dX6_casesSo_52 : decode cX6_casesSo 52 = .ok (.if_icmp .ne 6, 3) := by decide +kernel
theorem dX6_casesSo_55 : decode cX6_casesSo 55 = .ok (.iload 4, 2) := by decide +kernel
theorem dX6_casesSo_57 : decode cX6_casesSo 57 = .ok (.ireturn, 1) := by decide +kernel
theorem dX6_casesSo_58 : decode cX6_casesSo 58 = .ok (.iload_n 0, 1) := by decide +kernel
theorem dX6_casesSo_59 : decode cX6_casesSo 59 = .ok (.invokestatic 19, 3) := by decide +kernel
theorem dX6_casesSo_62 : decode cX6_casesSo 62 = .ok (.invokestatic 23, 3) := by decide +kernel
theorem dX6_casesSo_65 : decode cX6_casesSo 65 = .ok (.istore 5, 2) := by decide +kernel
theorem dX6_casesSo_67 : decode cX6_casesSo 67 = .ok (.iload_n 0, 1) := by decide +kernel
theorem dX6_casesSo_68 : decode cX6_casesSo 68 = .ok (.iconst 5, 1) := by decide +kernel
theorem dX6_casesSo_69 : decode cX6_casesSo 69 = .ok (.if_icmp .ge 8, 3) := by decide +kernel
theorem dX6_casesSo_72 : decode cX6_casesSo 72 = .ok (.iload 5, 2) := by decide +kernel
theorem dX6_casesSo_74 : decode cX6_casesSo 74 = .ok (.goto 8, 3) := by decide +kernel
theorem dX6_casesSo_77 : decode cX6_casesSo 77 = .ok (.iload 5, 2) := by decide +kernel
theorem dX6_casesSo_79 : decode cX6_casesSo 79 = .ok (.iload 4, 2) := by decide +kernel
theorem dX6_casesSo_81 : decode cX6_casesSo 81 = .ok (.ixor, 1) := by decide +kernel
theorem dX6_casesSo_82 : decode cX6_casesSo 82 = .ok (.ireturn, 1) := by decide +kernel
set_option maxRecDepth 20000 in
theorem ggX6_casesAnswered_X6_casesSo : GoodIn wsX6_casesAnswered wsX6_casesSo := goodIn_r _ [4, 5, 6, 7, 8, 9, 3, 10, 11, 12, 13, 14, 15, 16] (by decide +kernel) (by decide +kernel)
set_option maxRecDepth 20000 in
theorem gX6_casesAnswered_X6_casesSo : GoodIn wsX6_casesAnswered (va_wsS RX6 26 yX6_casesSo wsX6_casesSo) := goodIn_app (goodIn_of _ (by decide +kernel)) ggX6_casesAnswered_X6_casesSo
set_option maxRecDepth 20000 in
theorem ggX6_casesAnswered_X9_casesGiving : GoodIn wsX6_casesAnswered wsX9_casesGiving := goodIn_r _ [18] (by decide +kernel) (by decide +kernel)
set_option maxRecDepth 20000 in
theorem gX6_casesAnswered_X9_casesGiving_n30 : GoodIn wsX6_casesAnswered (wsX9_casesGiving) := ggX6_casesAnswered_X9_casesGiving
theorem dX6_casesAnswered_0 : decode cX6_casesAnswered 0 = .ok (.iload_n 1, 1) := by decide +kernel
theorem dX6_casesAnswered_1 : decode cX6_casesAnswered 1 = .ok (.iload_n 0, 1) := by decide +kernel
theorem dX6_casesAnswered_2 : decode cX6_casesAnswered 2 = .ok (.iconst 1, 1) := by decide +kernel
theorem dX6_casesAnswered_3 : decode cX6_casesAnswered 3 = .ok (.iload_n 2, 1) := by decide +kernel
theorem dX6_casesAnswered_4 : decode cX6_casesAnswered 4 = .ok (.iload_n 3, 1) := by decide +kernel
theorem dX6_casesAnswered_5 : decode cX6_casesAnswered 5 = .ok (.invokestatic 26, 3) := by decide +kernel
theorem dX6_casesAnswered_8 : decode cX6_casesAnswered 8 = .ok (.iload_n 0, 1) := by decide +kernel
theorem dX6_casesAnswered_9 : decode cX6_casesAnswered 9 = .ok (.iconst 0, 1) := by decide +kernel
theorem dX6_casesAnswered_10 : decode cX6_casesAnswered 10 = .ok (.iload_n 2, 1) := by decide +kernel
theorem dX6_casesAnswered_11 : decode cX6_casesAnswered 11 = .ok (.iload_n 3, 1) := by decide +kernel
theorem dX6_casesAnswered_12 : decode cX6_casesAnswered 12 = .ok (.invokestatic 26, 3) := by decide +kernel
theorem dX6_casesAnswered_15 : decode cX6_casesAnswered 15 = .ok (.iload_n 2, 1) := by decide +kernel
theorem dX6_casesAnswered_16 : decode cX6_casesAnswered 16 = .ok (.iload_n 3, 1) := by decide +kernel
theorem dX6_casesAnswered_17 : decode cX6_casesAnswered 17 = .ok (.if_icmp .ne 7, 3) := by decide +kernel
theorem dX6_casesAnswered_20 : decode cX6_casesAnswered 20 = .ok (.iconst 1, 1) := by decide +kernel
theorem dX6_casesAnswered_21 : decode cX6_casesAnswered 21 = .ok (.goto 4, 3) := by decide +kernel
theorem dX6_casesAnswered_24 : decode cX6_casesAnswered 24 = .ok (.iconst 0, 1) := by decide +kernel
theorem dX6_casesAnswered_25 : decode cX6_casesAnswered 25 = .ok (.invokestatic 30, 3) := by decide +kernel
theorem dX6_casesAnswered_28 : decode cX6_casesAnswered 28 = .ok (.ireturn, 1) := by decide +kernel
set_option maxRecDepth 20000 in
theorem ggX6_answerIn_X6_casesAnswered : GoodIn wsX6_answerIn wsX6_casesAnswered := goodIn_r _ [4, 5, 6, 3, 7, 8, 9, 10, 11, 12, 13, 14, 15, 16, 17, 18, 19, 20, 21] (by decide +kernel) (by decide +kernel)
set_option maxRecDepth 20000 in
theorem gX6_answerIn_X6_casesAnswered : GoodIn wsX6_answerIn (va_wsS RX6 34 yX6_casesAnswered wsX6_casesAnswered) := goodIn_app (goodIn_of _ (by decide +kernel)) ggX6_answerIn_X6_casesAnswered
set_option maxRecDepth 20000 in
theorem ggX6_answerIn_X9_answerAt : GoodIn wsX6_answerIn wsX9_answerAt := goodIn_r _ [23] (by decide +kernel) (by decide +kernel)
set_option maxRecDepth 20000 in
theorem gX6_answerIn_X9_answerAt_n38 : GoodIn wsX6_answerIn (wsX9_answerAt) := ggX6_answerIn_X9_answerAt
theorem dX6_answerIn_0 : decode cX6_answerIn 0 = .ok (.iload_n 3, 1) := by decide +kernel
theorem dX6_answerIn_1 : decode cX6_answerIn 1 = .ok (.iload_n 0, 1) := by decide +kernel
theorem dX6_answerIn_2 : decode cX6_answerIn 2 = .ok (.iconst 1, 1) := by decide +kernel
theorem dX6_answerIn_3 : decode cX6_answerIn 3 = .ok (.iload_n 1, 1) := by decide +kernel
theorem dX6_answerIn_4 : decode cX6_answerIn 4 = .ok (.iload_n 2, 1) := by decide +kernel
theorem dX6_answerIn_5 : decode cX6_answerIn 5 = .ok (.invokestatic 34, 3) := by decide +kernel
theorem dX6_answerIn_8 : decode cX6_answerIn 8 = .ok (.iload_n 0, 1) := by decide +kernel
theorem dX6_answerIn_9 : decode cX6_answerIn 9 = .ok (.iconst 0, 1) := by decide +kernel
theorem dX6_answerIn_10 : decode cX6_answerIn 10 = .ok (.iload_n 1, 1) := by decide +kernel
theorem dX6_answerIn_11 : decode cX6_answerIn 11 = .ok (.iload_n 2, 1) := by decide +kernel
theorem dX6_answerIn_12 : decode cX6_answerIn 12 = .ok (.invokestatic 34, 3) := by decide +kernel
theorem dX6_answerIn_15 : decode cX6_answerIn 15 = .ok (.invokestatic 38, 3) := by decide +kernel
theorem dX6_answerIn_18 : decode cX6_answerIn 18 = .ok (.ireturn, 1) := by decide +kernel
theorem dX7_init_0 : decode cX7_init 0 = .ok (.aload_n 0, 1) := by decide +kernel
theorem dX7_init_1 : decode cX7_init 1 = .ok (.invokespecial 3, 3) := by decide +kernel
theorem dX7_init_4 : decode cX7_init 4 = .ok (.aload_n 0, 1) := by decide +kernel
theorem dX7_init_5 : decode cX7_init 5 = .ok (.bipush 6, 2) := by decide +kernel
theorem dX7_init_7 : decode cX7_init 7 = .ok (.newarray .int, 2) := by decide +kernel
theorem dX7_init_9 : decode cX7_init 9 = .ok (.putfield 9, 3) := by decide +kernel
theorem dX7_init_12 : decode cX7_init 12 = .ok (.aload_n 0, 1) := by decide +kernel
theorem dX7_init_13 : decode cX7_init 13 = .ok (.bipush 6, 2) := by decide +kernel
theorem dX7_init_15 : decode cX7_init 15 = .ok (.newarray .int, 2) := by decide +kernel
theorem dX7_init_17 : decode cX7_init 17 = .ok (.putfield 15, 3) := by decide +kernel
theorem dX7_init_20 : decode cX7_init 20 = .ok (.aload_n 0, 1) := by decide +kernel
theorem dX7_init_21 : decode cX7_init 21 = .ok (.bipush 6, 2) := by decide +kernel
theorem dX7_init_23 : decode cX7_init 23 = .ok (.newarray .int, 2) := by decide +kernel
theorem dX7_init_25 : decode cX7_init 25 = .ok (.putfield 18, 3) := by decide +kernel
theorem dX7_init_28 : decode cX7_init 28 = .ok (.return_, 1) := by decide +kernel
theorem dX7_add_0 : decode cX7_add 0 = .ok (.aload_n 0, 1) := by decide +kernel
theorem dX7_add_1 : decode cX7_add 1 = .ok (.getfield 21, 3) := by decide +kernel
theorem dX7_add_4 : decode cX7_add 4 = .ok (.bipush 6, 2) := by decide +kernel
theorem dX7_add_6 : decode cX7_add 6 = .ok (.if_icmp .lt 6, 3) := by decide +kernel
theorem dX7_add_9 : decode cX7_add 9 = .ok (.bipush (-4), 2) := by decide +kernel
theorem dX7_add_11 : decode cX7_add 11 = .ok (.ireturn, 1) := by decide +kernel
theorem dX7_add_12 : decode cX7_add 12 = .ok (.aload_n 0, 1) := by decide +kernel
theorem dX7_add_13 : decode cX7_add 13 = .ok (.getfield 9, 3) := by decide +kernel
theorem dX7_add_16 : decode cX7_add 16 = .ok (.aload_n 0, 1) := by decide +kernel
theorem dX7_add_17 : decode cX7_add 17 = .ok (.getfield 21, 3) := by decide +kernel
theorem dX7_add_20 : decode cX7_add 20 = .ok (.iload_n 1, 1) := by decide +kernel
theorem dX7_add_21 : decode cX7_add 21 = .ok (.iastore, 1) := by decide +kernel
theorem dX7_add_22 : decode cX7_add 22 = .ok (.aload_n 0, 1) := by decide +kernel
theorem dX7_add_23 : decode cX7_add 23 = .ok (.getfield 15, 3) := by decide +kernel
theorem dX7_add_26 : decode cX7_add 26 = .ok (.aload_n 0, 1) := by decide +kernel
theorem dX7_add_27 : decode cX7_add 27 = .ok (.getfield 21, 3) := by decide +kernel
theorem dX7_add_30 : decode cX7_add 30 = .ok (.iload_n 2, 1) := by decide +kernel
theorem dX7_add_31 : decode cX7_add 31 = .ok (.iastore, 1) := by decide +kernel
theorem dX7_add_32 : decode cX7_add 32 = .ok (.aload_n 0, 1) := by decide +kernel
theorem dX7_add_33 : decode cX7_add 33 = .ok (.getfield 18, 3) := by decide +kernel
theorem dX7_add_36 : decode cX7_add 36 = .ok (.aload_n 0, 1) := by decide +kernel
theorem dX7_add_37 : decode cX7_add 37 = .ok (.getfield 21, 3) := by decide +kernel
theorem dX7_add_40 : decode cX7_add 40 = .ok (.iload_n 3, 1) := by decide +kernel
theorem dX7_add_41 : decode cX7_add 41 = .ok (.iastore, 1) := by decide +kernel
theorem dX7_add_42 : decode cX7_add 42 = .ok (.aload_n 0, 1) := by decide +kernel
theorem dX7_add_43 : decode cX7_add 43 = .ok (.dup, 1) := by decide +kernel
theorem dX7_add_44 : decode cX7_add 44 = .ok (.getfield 21, 3) := by decide +kernel
theorem dX7_add_47 : decode cX7_add 47 = .ok (.iconst 1, 1) := by decide +kernel
theorem dX7_add_48 : decode cX7_add 48 = .ok (.iadd, 1) := by decide +kernel
theorem dX7_add_49 : decode cX7_add 49 = .ok (.putfield 21, 3) := by decide +kernel
theorem dX7_add_52 : decode cX7_add 52 = .ok (.aload_n 0, 1) := by decide +kernel
theorem dX7_add_53 : decode cX7_add 53 = .ok (.getfield 21, 3) := by decide +kernel
theorem dX7_add_56 : decode cX7_add 56 = .ok (.ireturn, 1) := by decide +kernel
theorem dX7_forget_0 : decode cX7_forget 0 = .ok (.aload_n 0, 1) := by decide +kernel
theorem dX7_forget_1 : decode cX7_forget 1 = .ok (.getfield 21, 3) := by decide +kernel
theorem dX7_forget_4 : decode cX7_forget 4 = .ok (.istore_n 1, 1) := by decide +kernel
theorem dX7_forget_5 : decode cX7_forget 5 = .ok (.aload_n 0, 1) := by decide +kernel
theorem dX7_forget_6 : decode cX7_forget 6 = .ok (.iconst 0, 1) := by decide +kernel
theorem dX7_forget_7 : decode cX7_forget 7 = .ok (.putfield 21, 3) := by decide +kernel
theorem dX7_forget_10 : decode cX7_forget 10 = .ok (.iload_n 1, 1) := by decide +kernel
theorem dX7_forget_11 : decode cX7_forget 11 = .ok (.ireturn, 1) := by decide +kernel
set_option maxRecDepth 20000 in
theorem ggX7_narrow_X1_hasSimple : GoodIn wsX7_narrow wsX1_hasSimple := goodIn_r _ [9, 10, 11, 12, 13, 14, 15, 16, 8, 17, 18, 49, 50, 51, 52, 53] (by decide +kernel) (by decide +kernel)
set_option maxRecDepth 20000 in
theorem gX7_narrow_X1_hasSimple : GoodIn wsX7_narrow (wsV RX7 25 RX1 yX1_hasSimple wsX1_hasSimple) := goodIn_app (goodIn_of _ (by decide +kernel)) ggX7_narrow_X1_hasSimple
set_option maxRecDepth 20000 in
theorem ggX7_narrow_X8_narrow : GoodIn wsX7_narrow wsX8_narrow := goodIn_r _ [22, 23, 24, 25, 26, 27, 28, 12, 29, 30, 31, 32, 33, 34, 35, 36, 37, 38, 39, 11, 13, 40, 41, 42, 43, 44] (by decide +kernel) (by decide +kernel)
set_option maxRecDepth 20000 in
theorem gX7_narrow_X8_narrow : GoodIn wsX7_narrow (va_wsS RX7 31 yX8_narrow wsX8_narrow) := goodIn_app (goodIn_of _ (by decide +kernel)) ggX7_narrow_X8_narrow
theorem dX7_narrow_0 : decode cX7_narrow 0 = .ok (.iconst 0, 1) := by decide +kernel
theorem dX7_narrow_1 : decode cX7_narrow 1 = .ok (.istore_n 3, 1) := by decide +kernel
theorem dX7_narrow_2 : decode cX7_narrow 2 = .ok (.iload_n 3, 1) := by decide +kernel
theorem dX7_narrow_3 : decode cX7_narrow 3 = .ok (.aload_n 0, 1) := by decide +kernel
theorem dX7_narrow_4 : decode cX7_narrow 4 = .ok (.getfield 21, 3) := by decide +kernel
theorem dX7_narrow_7 : decode cX7_narrow 7 = .ok (.if_icmp .ge 45, 3) := by decide +kernel
theorem dX7_narrow_10 : decode cX7_narrow 10 = .ok (.aload_n 2, 1) := by decide +kernel
theorem dX7_narrow_11 : decode cX7_narrow 11 = .ok (.aload_n 0, 1) := by decide +kernel
theorem dX7_narrow_12 : decode cX7_narrow 12 = .ok (.getfield 9, 3) := by decide +kernel
theorem dX7_narrow_15 : decode cX7_narrow 15 = .ok (.iload_n 3, 1) := by decide +kernel
theorem dX7_narrow_16 : decode cX7_narrow 16 = .ok (.iaload, 1) := by decide +kernel
theorem dX7_narrow_17 : decode cX7_narrow 17 = .ok (.invokevirtual 25, 3) := by decide +kernel
theorem dX7_narrow_20 : decode cX7_narrow 20 = .ok (.ifCond .eq 26, 3) := by decide +kernel
theorem dX7_narrow_23 : decode cX7_narrow 23 = .ok (.aload_n 1, 1) := by decide +kernel
theorem dX7_narrow_24 : decode cX7_narrow 24 = .ok (.aload_n 1, 1) := by decide +kernel
theorem dX7_narrow_25 : decode cX7_narrow 25 = .ok (.aload_n 0, 1) := by decide +kernel
theorem dX7_narrow_26 : decode cX7_narrow 26 = .ok (.getfield 9, 3) := by decide +kernel
theorem dX7_narrow_29 : decode cX7_narrow 29 = .ok (.iload_n 3, 1) := by decide +kernel
theorem dX7_narrow_30 : decode cX7_narrow 30 = .ok (.iaload, 1) := by decide +kernel
theorem dX7_narrow_31 : decode cX7_narrow 31 = .ok (.aload_n 0, 1) := by decide +kernel
theorem dX7_narrow_32 : decode cX7_narrow 32 = .ok (.getfield 18, 3) := by decide +kernel
theorem dX7_narrow_35 : decode cX7_narrow 35 = .ok (.iload_n 3, 1) := by decide +kernel
theorem dX7_narrow_36 : decode cX7_narrow 36 = .ok (.iaload, 1) := by decide +kernel
theorem dX7_narrow_37 : decode cX7_narrow 37 = .ok (.aload_n 0, 1) := by decide +kernel
theorem dX7_narrow_38 : decode cX7_narrow 38 = .ok (.getfield 15, 3) := by decide +kernel
theorem dX7_narrow_41 : decode cX7_narrow 41 = .ok (.iload_n 3, 1) := by decide +kernel
theorem dX7_narrow_42 : decode cX7_narrow 42 = .ok (.iaload, 1) := by decide +kernel
theorem dX7_narrow_43 : decode cX7_narrow 43 = .ok (.invokestatic 31, 3) := by decide +kernel
theorem dX7_narrow_46 : decode cX7_narrow 46 = .ok (.iinc 3 1, 3) := by decide +kernel
theorem dX7_narrow_49 : decode cX7_narrow 49 = .ok (.goto (-47), 3) := by decide +kernel
theorem dX7_narrow_52 : decode cX7_narrow 52 = .ok (.return_, 1) := by decide +kernel
theorem dX8_fill_0 : decode cX8_fill 0 = .ok (.iconst 0, 1) := by decide +kernel
theorem dX8_fill_1 : decode cX8_fill 1 = .ok (.istore_n 2, 1) := by decide +kernel
theorem dX8_fill_2 : decode cX8_fill 2 = .ok (.iload_n 2, 1) := by decide +kernel
theorem dX8_fill_3 : decode cX8_fill 3 = .ok (.aload_n 0, 1) := by decide +kernel
theorem dX8_fill_4 : decode cX8_fill 4 = .ok (.arraylength, 1) := by decide +kernel
theorem dX8_fill_5 : decode cX8_fill 5 = .ok (.if_icmp .ge 13, 3) := by decide +kernel
theorem dX8_fill_8 : decode cX8_fill 8 = .ok (.aload_n 0, 1) := by decide +kernel
theorem dX8_fill_9 : decode cX8_fill 9 = .ok (.iload_n 2, 1) := by decide +kernel
theorem dX8_fill_10 : decode cX8_fill 10 = .ok (.iload_n 1, 1) := by decide +kernel
theorem dX8_fill_11 : decode cX8_fill 11 = .ok (.iastore, 1) := by decide +kernel
theorem dX8_fill_12 : decode cX8_fill 12 = .ok (.iinc 2 1, 3) := by decide +kernel
theorem dX8_fill_15 : decode cX8_fill 15 = .ok (.goto (-13), 3) := by decide +kernel
theorem dX8_fill_18 : decode cX8_fill 18 = .ok (.return_, 1) := by decide +kernel
set_option maxRecDepth 20000 in
theorem ggX8_count_J6_bitCount_0f7a4 : GoodIn wsX8_count wsJ6_bitCount_0f7a4 := goodIn_r _ [4, 5, 6, 7] (by decide +kernel) (by decide +kernel)
set_option maxRecDepth 20000 in
theorem gX8_count_J6_bitCount_0f7a4 : GoodIn wsX8_count (va_wsS RX8 9 yJ6_bitCount_0f7a4 wsJ6_bitCount_0f7a4) := goodIn_app (goodIn_of _ (by decide +kernel)) ggX8_count_J6_bitCount_0f7a4
theorem dX8_count_0 : decode cX8_count 0 = .ok (.iconst 0, 1) := by decide +kernel
theorem dX8_count_1 : decode cX8_count 1 = .ok (.istore_n 1, 1) := by decide +kernel
theorem dX8_count_2 : decode cX8_count 2 = .ok (.aload_n 0, 1) := by decide +kernel
theorem dX8_count_3 : decode cX8_count 3 = .ok (.astore_n 2, 1) := by decide +kernel
theorem dX8_count_4 : decode cX8_count 4 = .ok (.aload_n 2, 1) := by decide +kernel
theorem dX8_count_5 : decode cX8_count 5 = .ok (.arraylength, 1) := by decide +kernel
theorem dX8_count_6 : decode cX8_count 6 = .ok (.istore_n 3, 1) := by decide +kernel
theorem dX8_count_7 : decode cX8_count 7 = .ok (.iconst 0, 1) := by decide +kernel
theorem dX8_count_8 : decode cX8_count 8 = .ok (.istore 4, 2) := by decide +kernel
theorem dX8_count_10 : decode cX8_count 10 = .ok (.iload 4, 2) := by decide +kernel
theorem dX8_count_12 : decode cX8_count 12 = .ok (.iload_n 3, 1) := by decide +kernel
theorem dX8_count_13 : decode cX8_count 13 = .ok (.if_icmp .ge 23, 3) := by decide +kernel
theorem dX8_count_16 : decode cX8_count 16 = .ok (.aload_n 2, 1) := by decide +kernel
theorem dX8_count_17 : decode cX8_count 17 = .ok (.iload 4, 2) := by decide +kernel
theorem dX8_count_19 : decode cX8_count 19 = .ok (.iaload, 1) := by decide +kernel
theorem dX8_count_20 : decode cX8_count 20 = .ok (.istore 5, 2) := by decide +kernel
theorem dX8_count_22 : decode cX8_count 22 = .ok (.iload_n 1, 1) := by decide +kernel
theorem dX8_count_23 : decode cX8_count 23 = .ok (.iload 5, 2) := by decide +kernel
theorem dX8_count_25 : decode cX8_count 25 = .ok (.invokestatic 9, 3) := by decide +kernel
theorem dX8_count_28 : decode cX8_count 28 = .ok (.iadd, 1) := by decide +kernel
theorem dX8_count_29 : decode cX8_count 29 = .ok (.istore_n 1, 1) := by decide +kernel
theorem dX8_count_30 : decode cX8_count 30 = .ok (.iinc 4 1, 3) := by decide +kernel
theorem dX8_count_33 : decode cX8_count 33 = .ok (.goto (-23), 3) := by decide +kernel
theorem dX8_count_36 : decode cX8_count 36 = .ok (.iload_n 1, 1) := by decide +kernel
theorem dX8_count_37 : decode cX8_count 37 = .ok (.ireturn, 1) := by decide +kernel
set_option maxRecDepth 20000 in
theorem ggX8_countWithFact_X9_casesWithFact : GoodIn wsX8_countWithFact wsX9_casesWithFact := goodIn_r _ [3, 4] (by decide +kernel) (by decide +kernel)
set_option maxRecDepth 20000 in
theorem gX8_countWithFact_X9_casesWithFact_n15 : GoodIn wsX8_countWithFact (wsX9_casesWithFact) := ggX8_countWithFact_X9_casesWithFact
set_option maxRecDepth 20000 in
theorem ggX8_countWithFact_J6_bitCount_0f7a4 : GoodIn wsX8_countWithFact wsJ6_bitCount_0f7a4 := goodIn_r _ [8, 9, 10, 11] (by decide +kernel) (by decide +kernel)
set_option maxRecDepth 20000 in
theorem gX8_countWithFact_J6_bitCount_0f7a4 : GoodIn wsX8_countWithFact (va_wsS RX8 9 yJ6_bitCount_0f7a4 wsJ6_bitCount_0f7a4) := goodIn_app (goodIn_of _ (by decide +kernel)) ggX8_countWithFact_J6_bitCount_0f7a4
theorem dX8_countWithFact_0 : decode cX8_countWithFact 0 = .ok (.iconst 0, 1) := by decide +kernel
theorem dX8_countWithFact_1 : decode cX8_countWithFact 1 = .ok (.istore_n 2, 1) := by decide +kernel
theorem dX8_countWithFact_2 : decode cX8_countWithFact 2 = .ok (.aload_n 0, 1) := by decide +kernel
theorem dX8_countWithFact_3 : decode cX8_countWithFact 3 = .ok (.astore_n 3, 1) := by decide +kernel
theorem dX8_countWithFact_4 : decode cX8_countWithFact 4 = .ok (.aload_n 3, 1) := by decide +kernel
theorem dX8_countWithFact_5 : decode cX8_countWithFact 5 = .ok (.arraylength, 1) := by decide +kernel
theorem dX8_countWithFact_6 : decode cX8_countWithFact 6 = .ok (.istore 4, 2) := by decide +kernel
theorem dX8_countWithFact_8 : decode cX8_countWithFact 8 = .ok (.iconst 0, 1) := by decide +kernel
theorem dX8_countWithFact_9 : decode cX8_countWithFact 9 = .ok (.istore 5, 2) := by decide +kernel
theorem dX8_countWithFact_11 : decode cX8_countWithFact 11 = .ok (.iload 5, 2) := by decide +kernel
theorem dX8_countWithFact_13 : decode cX8_countWithFact 13 = .ok (.iload 4, 2) := by decide +kernel
theorem dX8_countWithFact_15 : decode cX8_countWithFact 15 = .ok (.if_icmp .ge 28, 3) := by decide +kernel
theorem dX8_countWithFact_18 : decode cX8_countWithFact 18 = .ok (.aload_n 3, 1) := by decide +kernel
theorem dX8_countWithFact_19 : decode cX8_countWithFact 19 = .ok (.iload 5, 2) := by decide +kernel
theorem dX8_countWithFact_21 : decode cX8_countWithFact 21 = .ok (.iaload, 1) := by decide +kernel
theorem dX8_countWithFact_22 : decode cX8_countWithFact 22 = .ok (.istore 6, 2) := by decide +kernel
theorem dX8_countWithFact_24 : decode cX8_countWithFact 24 = .ok (.iload_n 2, 1) := by decide +kernel
theorem dX8_countWithFact_25 : decode cX8_countWithFact 25 = .ok (.iload 6, 2) := by decide +kernel
theorem dX8_countWithFact_27 : decode cX8_countWithFact 27 = .ok (.iload_n 1, 1) := by decide +kernel
theorem dX8_countWithFact_28 : decode cX8_countWithFact 28 = .ok (.invokestatic 15, 3) := by decide +kernel
theorem dX8_countWithFact_31 : decode cX8_countWithFact 31 = .ok (.iand, 1) := by decide +kernel
theorem dX8_countWithFact_32 : decode cX8_countWithFact 32 = .ok (.invokestatic 9, 3) := by decide +kernel
theorem dX8_countWithFact_35 : decode cX8_countWithFact 35 = .ok (.iadd, 1) := by decide +kernel
theorem dX8_countWithFact_36 : decode cX8_countWithFact 36 = .ok (.istore_n 2, 1) := by decide +kernel
theorem dX8_countWithFact_37 : decode cX8_countWithFact 37 = .ok (.iinc 5 1, 3) := by decide +kernel
theorem dX8_countWithFact_40 : decode cX8_countWithFact 40 = .ok (.goto (-29), 3) := by decide +kernel
theorem dX8_countWithFact_43 : decode cX8_countWithFact 43 = .ok (.iload_n 2, 1) := by decide +kernel
theorem dX8_countWithFact_44 : decode cX8_countWithFact 44 = .ok (.ireturn, 1) := by decide +kernel
set_option maxRecDepth 20000 in
theorem ggX8_countAnswered_X6_casesAnswered : GoodIn wsX8_countAnswered wsX6_casesAnswered := goodIn_r _ [4, 5, 6, 3, 7, 8, 9, 10, 11, 12, 13, 14, 15, 16, 17, 18, 19, 20, 21] (by decide +kernel) (by decide +kernel)
set_option maxRecDepth 20000 in
theorem gX8_countAnswered_X6_casesAnswered : GoodIn wsX8_countAnswered (va_wsS RX8 18 yX6_casesAnswered wsX6_casesAnswered) := goodIn_app (goodIn_of _ (by decide +kernel)) ggX8_countAnswered_X6_casesAnswered
set_option maxRecDepth 20000 in
theorem ggX8_countAnswered_J6_bitCount_0f7a4 : GoodIn wsX8_countAnswered wsJ6_bitCount_0f7a4 := goodIn_r _ [25, 26, 27, 28] (by decide +kernel) (by decide +kernel)
set_option maxRecDepth 20000 in
theorem gX8_countAnswered_J6_bitCount_0f7a4 : GoodIn wsX8_countAnswered (va_wsS RX8 9 yJ6_bitCount_0f7a4 wsJ6_bitCount_0f7a4) := goodIn_app (goodIn_of _ (by decide +kernel)) ggX8_countAnswered_J6_bitCount_0f7a4
theorem dX8_countAnswered_0 : decode cX8_countAnswered 0 = .ok (.iconst 0, 1) := by decide +kernel
theorem dX8_countAnswered_1 : decode cX8_countAnswered 1 = .ok (.istore 4, 2) := by decide +kernel
theorem dX8_countAnswered_3 : decode cX8_countAnswered 3 = .ok (.iconst 0, 1) := by decide +kernel
theorem dX8_countAnswered_4 : decode cX8_countAnswered 4 = .ok (.istore 5, 2) := by decide +kernel
theorem dX8_countAnswered_6 : decode cX8_countAnswered 6 = .ok (.iload 5, 2) := by decide +kernel
theorem dX8_countAnswered_8 : decode cX8_countAnswered 8 = .ok (.aload_n 0, 1) := by decide +kernel
theorem dX8_countAnswered_9 : decode cX8_countAnswered 9 = .ok (.arraylength, 1) := by decide +kernel
theorem dX8_countAnswered_10 : decode cX8_countAnswered 10 = .ok (.if_icmp .ge 30, 3) := by decide +kernel
theorem dX8_countAnswered_13 : decode cX8_countAnswered 13 = .ok (.iload 4, 2) := by decide +kernel
theorem dX8_countAnswered_15 : decode cX8_countAnswered 15 = .ok (.aload_n 0, 1) := by decide +kernel
theorem dX8_countAnswered_16 : decode cX8_countAnswered 16 = .ok (.iload 5, 2) := by decide +kernel
theorem dX8_countAnswered_18 : decode cX8_countAnswered 18 = .ok (.iaload, 1) := by decide +kernel
theorem dX8_countAnswered_19 : decode cX8_countAnswered 19 = .ok (.iload_n 1, 1) := by decide +kernel
theorem dX8_countAnswered_20 : decode cX8_countAnswered 20 = .ok (.iload_n 2, 1) := by decide +kernel
theorem dX8_countAnswered_21 : decode cX8_countAnswered 21 = .ok (.iload_n 3, 1) := by decide +kernel
theorem dX8_countAnswered_22 : decode cX8_countAnswered 22 = .ok (.iload 5, 2) := by decide +kernel
theorem dX8_countAnswered_24 : decode cX8_countAnswered 24 = .ok (.invokestatic 18, 3) := by decide +kernel
theorem dX8_countAnswered_27 : decode cX8_countAnswered 27 = .ok (.iand, 1) := by decide +kernel
theorem dX8_countAnswered_28 : decode cX8_countAnswered 28 = .ok (.invokestatic 9, 3) := by decide +kernel
theorem dX8_countAnswered_31 : decode cX8_countAnswered 31 = .ok (.iadd, 1) := by decide +kernel
theorem dX8_countAnswered_32 : decode cX8_countAnswered 32 = .ok (.istore 4, 2) := by decide +kernel
theorem dX8_countAnswered_34 : decode cX8_countAnswered 34 = .ok (.iinc 5 1, 3) := by decide +kernel
theorem dX8_countAnswered_37 : decode cX8_countAnswered 37 = .ok (.goto (-31), 3) := by decide +kernel
theorem dX8_countAnswered_40 : decode cX8_countAnswered 40 = .ok (.iload 4, 2) := by decide +kernel
theorem dX8_countAnswered_42 : decode cX8_countAnswered 42 = .ok (.ireturn, 1) := by decide +kernel
theorem dX8_trueDays_0 : decode cX8_trueDays 0 = .ok (.iconst 0, 1) := by decide +kernel
theorem dX8_trueDays_1 : decode cX8_trueDays 1 = .ok (.istore_n 1, 1) := by decide +kernel
theorem dX8_trueDays_2 : decode cX8_trueDays 2 = .ok (.iconst 0, 1) := by decide +kernel
theorem dX8_trueDays_3 : decode cX8_trueDays 3 = .ok (.istore_n 2, 1) := by decide +kernel
theorem dX8_trueDays_4 : decode cX8_trueDays 4 = .ok (.iload_n 2, 1) := by decide +kernel
theorem dX8_trueDays_5 : decode cX8_trueDays 5 = .ok (.aload_n 0, 1) := by decide +kernel
theorem dX8_trueDays_6 : decode cX8_trueDays 6 = .ok (.arraylength, 1) := by decide +kernel
theorem dX8_trueDays_7 : decode cX8_trueDays 7 = .ok (.if_icmp .ge 21, 3) := by decide +kernel
theorem dX8_trueDays_10 : decode cX8_trueDays 10 = .ok (.aload_n 0, 1) := by decide +kernel
theorem dX8_trueDays_11 : decode cX8_trueDays 11 = .ok (.iload_n 2, 1) := by decide +kernel
theorem dX8_trueDays_12 : decode cX8_trueDays 12 = .ok (.iaload, 1) := by decide +kernel
theorem dX8_trueDays_13 : decode cX8_trueDays 13 = .ok (.ifCond .eq 9, 3) := by decide +kernel
theorem dX8_trueDays_16 : decode cX8_trueDays 16 = .ok (.iload_n 1, 1) := by decide +kernel
theorem dX8_trueDays_17 : decode cX8_trueDays 17 = .ok (.iconst 1, 1) := by decide +kernel
theorem dX8_trueDays_18 : decode cX8_trueDays 18 = .ok (.iload_n 2, 1) := by decide +kernel
theorem dX8_trueDays_19 : decode cX8_trueDays 19 = .ok (.ishl, 1) := by decide +kernel
theorem dX8_trueDays_20 : decode cX8_trueDays 20 = .ok (.ior, 1) := by decide +kernel
theorem dX8_trueDays_21 : decode cX8_trueDays 21 = .ok (.istore_n 1, 1) := by decide +kernel
theorem dX8_trueDays_22 : decode cX8_trueDays 22 = .ok (.iinc 2 1, 3) := by decide +kernel
theorem dX8_trueDays_25 : decode cX8_trueDays 25 = .ok (.goto (-21), 3) := by decide +kernel
theorem dX8_trueDays_28 : decode cX8_trueDays 28 = .ok (.iload_n 1, 1) := by decide +kernel
theorem dX8_trueDays_29 : decode cX8_trueDays 29 = .ok (.ireturn, 1) := by decide +kernel
theorem dX8_casesOfAnyDay_0 : decode cX8_casesOfAnyDay 0 = .ok (.iconst 0, 1) := by decide +kernel
theorem dX8_casesOfAnyDay_1 : decode cX8_casesOfAnyDay 1 = .ok (.istore_n 1, 1) := by decide +kernel
theorem dX8_casesOfAnyDay_2 : decode cX8_casesOfAnyDay 2 = .ok (.aload_n 0, 1) := by decide +kernel
theorem dX8_casesOfAnyDay_3 : decode cX8_casesOfAnyDay 3 = .ok (.astore_n 2, 1) := by decide +kernel
theorem dX8_casesOfAnyDay_4 : decode cX8_casesOfAnyDay 4 = .ok (.aload_n 2, 1) := by decide +kernel
theorem dX8_casesOfAnyDay_5 : decode cX8_casesOfAnyDay 5 = .ok (.arraylength, 1) := by decide +kernel
theorem dX8_casesOfAnyDay_6 : decode cX8_casesOfAnyDay 6 = .ok (.istore_n 3, 1) := by decide +kernel
theorem dX8_casesOfAnyDay_7 : decode cX8_casesOfAnyDay 7 = .ok (.iconst 0, 1) := by decide +kernel
theorem dX8_casesOfAnyDay_8 : decode cX8_casesOfAnyDay 8 = .ok (.istore 4, 2) := by decide +kernel
theorem dX8_casesOfAnyDay_10 : decode cX8_casesOfAnyDay 10 = .ok (.iload 4, 2) := by decide +kernel
theorem dX8_casesOfAnyDay_12 : decode cX8_casesOfAnyDay 12 = .ok (.iload_n 3, 1) := by decide +kernel
theorem dX8_casesOfAnyDay_13 : decode cX8_casesOfAnyDay 13 = .ok (.if_icmp .ge 20, 3) := by decide +kernel
theorem dX8_casesOfAnyDay_16 : decode cX8_casesOfAnyDay 16 = .ok (.aload_n 2, 1) := by decide +kernel
theorem dX8_casesOfAnyDay_17 : decode cX8_casesOfAnyDay 17 = .ok (.iload 4, 2) := by decide +kernel
theorem dX8_casesOfAnyDay_19 : decode cX8_casesOfAnyDay 19 = .ok (.iaload, 1) := by decide +kernel
theorem dX8_casesOfAnyDay_20 : decode cX8_casesOfAnyDay 20 = .ok (.istore 5, 2) := by decide +kernel
theorem dX8_casesOfAnyDay_22 : decode cX8_casesOfAnyDay 22 = .ok (.iload_n 1, 1) := by decide +kernel
theorem dX8_casesOfAnyDay_23 : decode cX8_casesOfAnyDay 23 = .ok (.iload 5, 2) := by decide +kernel
theorem dX8_casesOfAnyDay_25 : decode cX8_casesOfAnyDay 25 = .ok (.ior, 1) := by decide +kernel
theorem dX8_casesOfAnyDay_26 : decode cX8_casesOfAnyDay 26 = .ok (.istore_n 1, 1) := by decide +kernel
theorem dX8_casesOfAnyDay_27 : decode cX8_casesOfAnyDay 27 = .ok (.iinc 4 1, 3) := by decide +kernel
theorem dX8_casesOfAnyDay_30 : decode cX8_casesOfAnyDay 30 = .ok (.goto (-20), 3) := by decide +kernel
theorem dX8_casesOfAnyDay_33 : decode cX8_casesOfAnyDay 33 = .ok (.iload_n 1, 1) := by decide +kernel
theorem dX8_casesOfAnyDay_34 : decode cX8_casesOfAnyDay 34 = .ok (.ireturn, 1) := by decide +kernel
set_option maxRecDepth 20000 in
theorem ggX8_narrow_X6_casesAnswered : GoodIn wsX8_narrow wsX6_casesAnswered := goodIn_r _ [8, 9, 10, 7, 11, 12, 13, 14, 15, 16, 17, 18, 19, 20, 21, 22, 23, 24, 25] (by decide +kernel) (by decide +kernel)
set_option maxRecDepth 20000 in
theorem gX8_narrow_X6_casesAnswered : GoodIn wsX8_narrow (va_wsS RX8 18 yX6_casesAnswered wsX6_casesAnswered) := goodIn_app (goodIn_of _ (by decide +kernel)) ggX8_narrow_X6_casesAnswered
theorem dX8_narrow_0 : decode cX8_narrow 0 = .ok (.aload_n 0, 1) := by decide +kernel
theorem dX8_narrow_1 : decode cX8_narrow 1 = .ok (.arraylength, 1) := by decide +kernel
theorem dX8_narrow_2 : decode cX8_narrow 2 = .ok (.aload_n 1, 1) := by decide +kernel
theorem dX8_narrow_3 : decode cX8_narrow 3 = .ok (.arraylength, 1) := by decide +kernel
theorem dX8_narrow_4 : decode cX8_narrow 4 = .ok (.invokestatic 24, 3) := by decide +kernel
theorem dX8_narrow_7 : decode cX8_narrow 7 = .ok (.istore 5, 2) := by decide +kernel
theorem dX8_narrow_9 : decode cX8_narrow 9 = .ok (.iconst 0, 1) := by decide +kernel
theorem dX8_narrow_10 : decode cX8_narrow 10 = .ok (.istore 6, 2) := by decide +kernel
theorem dX8_narrow_12 : decode cX8_narrow 12 = .ok (.iload 6, 2) := by decide +kernel
theorem dX8_narrow_14 : decode cX8_narrow 14 = .ok (.iload 5, 2) := by decide +kernel
theorem dX8_narrow_16 : decode cX8_narrow 16 = .ok (.if_icmp .ge 27, 3) := by decide +kernel
theorem dX8_narrow_19 : decode cX8_narrow 19 = .ok (.aload_n 1, 1) := by decide +kernel
theorem dX8_narrow_20 : decode cX8_narrow 20 = .ok (.iload 6, 2) := by decide +kernel
theorem dX8_narrow_22 : decode cX8_narrow 22 = .ok (.aload_n 0, 1) := by decide +kernel
theorem dX8_narrow_23 : decode cX8_narrow 23 = .ok (.iload 6, 2) := by decide +kernel
theorem dX8_narrow_25 : decode cX8_narrow 25 = .ok (.iaload, 1) := by decide +kernel
theorem dX8_narrow_26 : decode cX8_narrow 26 = .ok (.iload_n 2, 1) := by decide +kernel
theorem dX8_narrow_27 : decode cX8_narrow 27 = .ok (.iload_n 3, 1) := by decide +kernel
theorem dX8_narrow_28 : decode cX8_narrow 28 = .ok (.iload 4, 2) := by decide +kernel
theorem dX8_narrow_30 : decode cX8_narrow 30 = .ok (.iload 6, 2) := by decide +kernel
theorem dX8_narrow_32 : decode cX8_narrow 32 = .ok (.invokestatic 18, 3) := by decide +kernel
theorem dX8_narrow_35 : decode cX8_narrow 35 = .ok (.iand, 1) := by decide +kernel
theorem dX8_narrow_36 : decode cX8_narrow 36 = .ok (.iastore, 1) := by decide +kernel
theorem dX8_narrow_37 : decode cX8_narrow 37 = .ok (.iinc 6 1, 3) := by decide +kernel
theorem dX8_narrow_40 : decode cX8_narrow 40 = .ok (.goto (-28), 3) := by decide +kernel
theorem dX8_narrow_43 : decode cX8_narrow 43 = .ok (.return_, 1) := by decide +kernel
set_option maxRecDepth 20000 in
theorem ggX9_init_X3_init : GoodIn wsX9_init wsX3_init := goodIn_r _ [39, 40, 2, 3, 41, 42, 43, 44, 32, 45, 92, 93] (by decide +kernel) (by decide +kernel)
set_option maxRecDepth 20000 in
theorem gX9_init_X3_init : GoodIn wsX9_init (wsX3_init) := ggX9_init_X3_init
set_option maxRecDepth 20000 in
theorem ggX9_init_X5_init : GoodIn wsX9_init wsX5_init := goodIn_r _ [47, 48, 2, 3, 49, 5, 6, 50, 32, 51, 52, 38, 39, 40, 41, 42, 43, 44, 45, 92, 93, 105, 106] (by decide +kernel) (by decide +kernel)
set_option maxRecDepth 20000 in
theorem gX9_init_X5_init_n20 : GoodIn wsX9_init (wsX5_init) := ggX9_init_X5_init
set_option maxRecDepth 20000 in
theorem ggX9_init_X1_init : GoodIn wsX9_init wsX1_init := goodIn_r _ [54, 55, 2, 3, 56, 107, 108, 109, 110, 111] (by decide +kernel) (by decide +kernel)
set_option maxRecDepth 20000 in
theorem gX9_init_X1_init_n27 : GoodIn wsX9_init (wsX1_init) := ggX9_init_X1_init
set_option maxRecDepth 20000 in
theorem ggX9_init_X4_init : GoodIn wsX9_init wsX4_init := goodIn_r _ [58, 59, 2, 3, 32, 60, 112, 113, 114, 115, 116, 117] (by decide +kernel) (by decide +kernel)
set_option maxRecDepth 20000 in
theorem gX9_init_X4_init_n34 : GoodIn wsX9_init (wsX4_init) := ggX9_init_X4_init
set_option maxRecDepth 20000 in
theorem ggX9_init_X0_init : GoodIn wsX9_init wsX0_init := goodIn_r _ [62, 63, 2, 3, 32, 64, 65, 66, 118, 119, 120, 121] (by decide +kernel) (by decide +kernel)
set_option maxRecDepth 20000 in
theorem gX9_init_X0_init_n41 : GoodIn wsX9_init (wsX0_init) := ggX9_init_X0_init
set_option maxRecDepth 20000 in
theorem ggX9_init_X7_init : GoodIn wsX9_init wsX7_init := goodIn_r _ [68, 69, 2, 3, 32, 70, 71, 72, 122, 123, 124, 125] (by decide +kernel) (by decide +kernel)
set_option maxRecDepth 20000 in
theorem gX9_init_X7_init_n48 : GoodIn wsX9_init (wsX7_init) := ggX9_init_X7_init
set_option maxRecDepth 20000 in
theorem ggX9_init_X2_init : GoodIn wsX9_init wsX2_init := goodIn_r _ [74, 75, 2, 3, 76, 32, 77, 78, 126, 127] (by decide +kernel) (by decide +kernel)
set_option maxRecDepth 20000 in
theorem gX9_init_X2_init_n55 : GoodIn wsX9_init (wsX2_init) := ggX9_init_X2_init
set_option maxRecDepth 20000 in
theorem ggX9_init_X4_begin : GoodIn wsX9_init wsX4_begin := goodIn_r _ [82, 83, 84, 85, 86, 87, 60, 88, 89, 90, 91, 112, 113, 114, 115, 116, 117] (by decide +kernel) (by decide +kernel)
set_option maxRecDepth 20000 in
theorem gX9_init_X4_begin : GoodIn wsX9_init (wsV RX9 78 RX4 yX4_begin wsX4_begin) := goodIn_app (goodIn_of _ (by decide +kernel)) ggX9_init_X4_begin
theorem dX9_init_0 : decode cX9_init 0 = .ok (.aload_n 0, 1) := by decide +kernel
theorem dX9_init_1 : decode cX9_init 1 = .ok (.invokespecial 1, 3) := by decide +kernel
theorem dX9_init_4 : decode cX9_init 4 = .ok (.aload_n 0, 1) := by decide +kernel
theorem dX9_init_5 : decode cX9_init 5 = .ok (.new 7, 3) := by decide +kernel
theorem dX9_init_8 : decode cX9_init 8 = .ok (.dup, 1) := by decide +kernel
theorem dX9_init_9 : decode cX9_init 9 = .ok (.bipush 24, 2) := by decide +kernel
theorem dX9_init_11 : decode cX9_init 11 = .ok (.invokespecial 11, 3) := by decide +kernel
theorem dX9_init_14 : decode cX9_init 14 = .ok (.putfield 14, 3) := by decide +kernel
theorem dX9_init_17 : decode cX9_init 17 = .ok (.aload_n 0, 1) := by decide +kernel
theorem dX9_init_18 : decode cX9_init 18 = .ok (.new 18, 3) := by decide +kernel
theorem dX9_init_21 : decode cX9_init 21 = .ok (.dup, 1) := by decide +kernel
theorem dX9_init_22 : decode cX9_init 22 = .ok (.invokespecial 20, 3) := by decide +kernel
theorem dX9_init_25 : decode cX9_init 25 = .ok (.putfield 21, 3) := by decide +kernel
theorem dX9_init_28 : decode cX9_init 28 = .ok (.aload_n 0, 1) := by decide +kernel
theorem dX9_init_29 : decode cX9_init 29 = .ok (.new 25, 3) := by decide +kernel
theorem dX9_init_32 : decode cX9_init 32 = .ok (.dup, 1) := by decide +kernel
theorem dX9_init_33 : decode cX9_init 33 = .ok (.invokespecial 27, 3) := by decide +kernel
theorem dX9_init_36 : decode cX9_init 36 = .ok (.putfield 28, 3) := by decide +kernel
theorem dX9_init_39 : decode cX9_init 39 = .ok (.aload_n 0, 1) := by decide +kernel
theorem dX9_init_40 : decode cX9_init 40 = .ok (.new 32, 3) := by decide +kernel
theorem dX9_init_43 : decode cX9_init 43 = .ok (.dup, 1) := by decide +kernel
theorem dX9_init_44 : decode cX9_init 44 = .ok (.invokespecial 34, 3) := by decide +kernel
theorem dX9_init_47 : decode cX9_init 47 = .ok (.putfield 35, 3) := by decide +kernel
theorem dX9_init_50 : decode cX9_init 50 = .ok (.aload_n 0, 1) := by decide +kernel
theorem dX9_init_51 : decode cX9_init 51 = .ok (.new 39, 3) := by decide +kernel
theorem dX9_init_54 : decode cX9_init 54 = .ok (.dup, 1) := by decide +kernel
theorem dX9_init_55 : decode cX9_init 55 = .ok (.invokespecial 41, 3) := by decide +kernel
theorem dX9_init_58 : decode cX9_init 58 = .ok (.putfield 42, 3) := by decide +kernel
theorem dX9_init_61 : decode cX9_init 61 = .ok (.aload_n 0, 1) := by decide +kernel
theorem dX9_init_62 : decode cX9_init 62 = .ok (.new 46, 3) := by decide +kernel
theorem dX9_init_65 : decode cX9_init 65 = .ok (.dup, 1) := by decide +kernel
theorem dX9_init_66 : decode cX9_init 66 = .ok (.invokespecial 48, 3) := by decide +kernel
theorem dX9_init_69 : decode cX9_init 69 = .ok (.putfield 49, 3) := by decide +kernel
theorem dX9_init_72 : decode cX9_init 72 = .ok (.aload_n 0, 1) := by decide +kernel
theorem dX9_init_73 : decode cX9_init 73 = .ok (.new 53, 3) := by decide +kernel
theorem dX9_init_76 : decode cX9_init 76 = .ok (.dup, 1) := by decide +kernel
theorem dX9_init_77 : decode cX9_init 77 = .ok (.invokespecial 55, 3) := by decide +kernel
theorem dX9_init_80 : decode cX9_init 80 = .ok (.putfield 56, 3) := by decide +kernel
theorem dX9_init_83 : decode cX9_init 83 = .ok (.aload_n 0, 1) := by decide +kernel
theorem dX9_init_84 : decode cX9_init 84 = .ok (.bipush 24, 2) := by decide +kernel
theorem dX9_init_86 : decode cX9_init 86 = .ok (.newarray .int, 2) := by decide +kernel
theorem dX9_init_88 : decode cX9_init 88 = .ok (.putfield 60, 3) := by decide +kernel
theorem dX9_init_91 : decode cX9_init 91 = .ok (.aload_n 0, 1) := by decide +kernel
theorem dX9_init_92 : decode cX9_init 92 = .ok (.iconst 2, 1) := by decide +kernel
theorem dX9_init_93 : decode cX9_init 93 = .ok (.newarray .boolean, 2) := by decide +kernel
theorem dX9_init_95 : decode cX9_init 95 = .ok (.putfield 64, 3) := by decide +kernel
theorem dX9_init_98 : decode cX9_init 98 = .ok (.aload_n 0, 1) := by decide +kernel
theorem dX9_init_99 : decode cX9_init 99 = .ok (.bipush 7, 2) := by decide +kernel
theorem dX9_init_101 : decode cX9_init 101 = .ok (.newarray .int, 2) := by decide +kernel
theorem dX9_init_103 : decode cX9_init 103 = .ok (.putfield 68, 3) := by decide +kernel
theorem dX9_init_106 : decode cX9_init 106 = .ok (.aload_n 0, 1) := by decide +kernel
theorem dX9_init_107 : decode cX9_init 107 = .ok (.getfield 35, 3) := by decide +kernel
theorem dX9_init_110 : decode cX9_init 110 = .ok (.aload_n 0, 1) := by decide +kernel
theorem dX9_init_111 : decode cX9_init 111 = .ok (.getfield 28, 3) := by decide +kernel
theorem dX9_init_114 : decode cX9_init 114 = .ok (.getfield 71, 3) := by decide +kernel
theorem dX9_init_117 : decode cX9_init 117 = .ok (.aload_n 0, 1) := by decide +kernel
theorem dX9_init_118 : decode cX9_init 118 = .ok (.getfield 28, 3) := by decide +kernel
theorem dX9_init_121 : decode cX9_init 121 = .ok (.getfield 75, 3) := by decide +kernel
theorem dX9_init_124 : decode cX9_init 124 = .ok (.invokevirtual 78, 3) := by decide +kernel
theorem dX9_init_127 : decode cX9_init 127 = .ok (.return_, 1) := by decide +kernel
set_option maxRecDepth 20000 in
theorem ggX9_write_X3_append : GoodIn wsX9_write wsX3_append := goodIn_r _ [6, 7, 8, 20, 21] (by decide +kernel) (by decide +kernel)
set_option maxRecDepth 20000 in
theorem gX9_write_X3_append : GoodIn wsX9_write (wsV RX9 82 RX3 yX3_append wsX3_append) := goodIn_app (goodIn_of _ (by decide +kernel)) ggX9_write_X3_append
theorem dX9_write_0 : decode cX9_write 0 = .ok (.aload_n 0, 1) := by decide +kernel
theorem dX9_write_1 : decode cX9_write 1 = .ok (.getfield 14, 3) := by decide +kernel
theorem dX9_write_4 : decode cX9_write 4 = .ok (.iload_n 1, 1) := by decide +kernel
theorem dX9_write_5 : decode cX9_write 5 = .ok (.invokevirtual 82, 3) := by decide +kernel
theorem dX9_write_8 : decode cX9_write 8 = .ok (.ireturn, 1) := by decide +kernel
set_option maxRecDepth 20000 in
theorem ggX9_wipe_X3_empty : GoodIn wsX9_wipe wsX3_empty := goodIn_r _ [6, 7, 19, 20] (by decide +kernel) (by decide +kernel)
set_option maxRecDepth 20000 in
theorem gX9_wipe_X3_empty : GoodIn wsX9_wipe (wsV RX9 86 RX3 yX3_empty wsX3_empty) := goodIn_app (goodIn_of _ (by decide +kernel)) ggX9_wipe_X3_empty
theorem dX9_wipe_0 : decode cX9_wipe 0 = .ok (.aload_n 0, 1) := by decide +kernel
theorem dX9_wipe_1 : decode cX9_wipe 1 = .ok (.getfield 14, 3) := by decide +kernel
theorem dX9_wipe_4 : decode cX9_wipe 4 = .ok (.invokevirtual 86, 3) := by decide +kernel
theorem dX9_wipe_7 : decode cX9_wipe 7 = .ok (.ireturn, 1) := by decide +kernel
set_option maxRecDepth 20000 in
theorem ggX9_fault_X1_firstFault : GoodIn wsX9_fault wsX1_firstFault := goodIn_r _ [5, 6, 7, 8, 9, 10, 11, 12, 13, 14, 4, 15, 27, 28] (by decide +kernel) (by decide +kernel)
set_option maxRecDepth 20000 in
theorem gX9_fault_X1_firstFault : GoodIn wsX9_fault (va_wsS RX9 90 yX1_firstFault wsX1_firstFault) := goodIn_app (goodIn_of _ (by decide +kernel)) ggX9_fault_X1_firstFault
theorem dX9_fault_0 : decode cX9_fault 0 = .ok (.aload_n 0, 1) := by decide +kernel
theorem dX9_fault_1 : decode cX9_fault 1 = .ok (.getfield 14, 3) := by decide +kernel
theorem dX9_fault_4 : decode cX9_fault 4 = .ok (.invokestatic 90, 3) := by decide +kernel
theorem dX9_fault_7 : decode cX9_fault 7 = .ok (.ireturn, 1) := by decide +kernel
set_option maxRecDepth 20000 in
theorem ggX9_castle_X1_firstFault : GoodIn wsX9_castle wsX1_firstFault := goodIn_r _ [9, 10, 11, 12, 13, 14, 15, 16, 17, 18, 8, 19, 74, 75] (by decide +kernel) (by decide +kernel)
set_option maxRecDepth 20000 in
theorem gX9_castle_X1_firstFault : GoodIn wsX9_castle (va_wsS RX9 90 yX1_firstFault wsX1_firstFault) := goodIn_app (goodIn_of _ (by decide +kernel)) ggX9_castle_X1_firstFault
set_option maxRecDepth 20000 in
theorem ggX9_castle_X1_read : GoodIn wsX9_castle wsX1_read := goodIn_r _ [23, 24, 25, 26, 27, 28, 29, 30, 31, 32, 10, 11, 12, 13, 14, 15, 16, 33, 34, 35, 8, 36, 69, 70, 71, 72, 73, 74, 75] (by decide +kernel) (by decide +kernel)
set_option maxRecDepth 20000 in
theorem gX9_castle_X1_read : GoodIn wsX9_castle (wsV RX9 94 RX1 yX1_read wsX1_read) := goodIn_app (goodIn_of _ (by decide +kernel)) ggX9_castle_X1_read
set_option maxRecDepth 20000 in
theorem ggX9_castle_X4_begin : GoodIn wsX9_castle wsX4_begin := goodIn_r _ [41, 42, 43, 44, 45, 46, 47, 48, 49, 50, 51, 76, 77, 78, 79, 80, 81] (by decide +kernel) (by decide +kernel)
set_option maxRecDepth 20000 in
theorem gX9_castle_X4_begin : GoodIn wsX9_castle (wsV RX9 78 RX4 yX4_begin wsX4_begin) := goodIn_app (goodIn_of _ (by decide +kernel)) ggX9_castle_X4_begin
set_option maxRecDepth 20000 in
theorem ggX9_castle_X0_forget : GoodIn wsX9_castle wsX0_forget := goodIn_r _ [56, 57, 82, 83, 84, 85] (by decide +kernel) (by decide +kernel)
set_option maxRecDepth 20000 in
theorem gX9_castle_X0_forget : GoodIn wsX9_castle (wsV RX9 98 RX0 yX0_forget wsX0_forget) := goodIn_app (goodIn_of _ (by decide +kernel)) ggX9_castle_X0_forget
theorem dX9_castle_0 : decode cX9_castle 0 = .ok (.aload_n 0, 1) := by decide +kernel
theorem dX9_castle_1 : decode cX9_castle 1 = .ok (.getfield 14, 3) := by decide +kernel
theorem dX9_castle_4 : decode cX9_castle 4 = .ok (.invokestatic 90, 3) := by decide +kernel
theorem dX9_castle_7 : decode cX9_castle 7 = .ok (.bipush (-9), 2) := by decide +kernel
theorem dX9_castle_9 : decode cX9_castle 9 = .ok (.if_icmp .eq 6, 3) := by decide +kernel
theorem dX9_castle_12 : decode cX9_castle 12 = .ok (.bipush (-3), 2) := by decide +kernel
theorem dX9_castle_14 : decode cX9_castle 14 = .ok (.ireturn, 1) := by decide +kernel
theorem dX9_castle_15 : decode cX9_castle 15 = .ok (.aload_n 0, 1) := by decide +kernel
theorem dX9_castle_16 : decode cX9_castle 16 = .ok (.getfield 28, 3) := by decide +kernel
theorem dX9_castle_19 : decode cX9_castle 19 = .ok (.aload_n 0, 1) := by decide +kernel
theorem dX9_castle_20 : decode cX9_castle 20 = .ok (.getfield 14, 3) := by decide +kernel
theorem dX9_castle_23 : decode cX9_castle 23 = .ok (.invokevirtual 94, 3) := by decide +kernel
theorem dX9_castle_26 : decode cX9_castle 26 = .ok (.aload_n 0, 1) := by decide +kernel
theorem dX9_castle_27 : decode cX9_castle 27 = .ok (.getfield 35, 3) := by decide +kernel
theorem dX9_castle_30 : decode cX9_castle 30 = .ok (.aload_n 0, 1) := by decide +kernel
theorem dX9_castle_31 : decode cX9_castle 31 = .ok (.getfield 28, 3) := by decide +kernel
theorem dX9_castle_34 : decode cX9_castle 34 = .ok (.getfield 71, 3) := by decide +kernel
theorem dX9_castle_37 : decode cX9_castle 37 = .ok (.aload_n 0, 1) := by decide +kernel
theorem dX9_castle_38 : decode cX9_castle 38 = .ok (.getfield 28, 3) := by decide +kernel
theorem dX9_castle_41 : decode cX9_castle 41 = .ok (.getfield 75, 3) := by decide +kernel
theorem dX9_castle_44 : decode cX9_castle 44 = .ok (.invokevirtual 78, 3) := by decide +kernel
theorem dX9_castle_47 : decode cX9_castle 47 = .ok (.aload_n 0, 1) := by decide +kernel
theorem dX9_castle_48 : decode cX9_castle 48 = .ok (.getfield 42, 3) := by decide +kernel
theorem dX9_castle_51 : decode cX9_castle 51 = .ok (.invokevirtual 98, 3) := by decide +kernel
theorem dX9_castle_54 : decode cX9_castle 54 = .ok (.iconst 0, 1) := by decide +kernel
theorem dX9_castle_55 : decode cX9_castle 55 = .ok (.istore_n 1, 1) := by decide +kernel
theorem dX9_castle_56 : decode cX9_castle 56 = .ok (.iload_n 1, 1) := by decide +kernel
theorem dX9_castle_57 : decode cX9_castle 57 = .ok (.iconst 2, 1) := by decide +kernel
theorem dX9_castle_58 : decode cX9_castle 58 = .ok (.if_icmp .ge 16, 3) := by decide +kernel
theorem dX9_castle_61 : decode cX9_castle 61 = .ok (.aload_n 0, 1) := by decide +kernel
theorem dX9_castle_62 : decode cX9_castle 62 = .ok (.getfield 64, 3) := by decide +kernel
theorem dX9_castle_65 : decode cX9_castle 65 = .ok (.iload_n 1, 1) := by decide +kernel
theorem dX9_castle_66 : decode cX9_castle 66 = .ok (.iconst 0, 1) := by decide +kernel
theorem dX9_castle_67 : decode cX9_castle 67 = .ok (.bastore, 1) := by decide +kernel
theorem dX9_castle_68 : decode cX9_castle 68 = .ok (.iinc 1 1, 3) := by decide +kernel
theorem dX9_castle_71 : decode cX9_castle 71 = .ok (.goto (-15), 3) := by decide +kernel
theorem dX9_castle_74 : decode cX9_castle 74 = .ok (.aload_n 0, 1) := by decide +kernel
theorem dX9_castle_75 : decode cX9_castle 75 = .ok (.getfield 28, 3) := by decide +kernel
theorem dX9_castle_78 : decode cX9_castle 78 = .ok (.getfield 101, 3) := by decide +kernel
theorem dX9_castle_81 : decode cX9_castle 81 = .ok (.ireturn, 1) := by decide +kernel
set_option maxRecDepth 20000 in
theorem ggX9_quill_X3_append : GoodIn wsX9_quill wsX3_append := goodIn_r _ [6, 7, 8, 22, 23] (by decide +kernel) (by decide +kernel)
set_option maxRecDepth 20000 in
theorem gX9_quill_X3_append : GoodIn wsX9_quill (wsV RX9 82 RX3 yX3_append wsX3_append) := goodIn_app (goodIn_of _ (by decide +kernel)) ggX9_quill_X3_append
theorem dX9_quill_0 : decode cX9_quill 0 = .ok (.aload_n 0, 1) := by decide +kernel
theorem dX9_quill_1 : decode cX9_quill 1 = .ok (.getfield 21, 3) := by decide +kernel
theorem dX9_quill_4 : decode cX9_quill 4 = .ok (.getfield 104, 3) := by decide +kernel
theorem dX9_quill_7 : decode cX9_quill 7 = .ok (.iload_n 1, 1) := by decide +kernel
theorem dX9_quill_8 : decode cX9_quill 8 = .ok (.invokevirtual 82, 3) := by decide +kernel
theorem dX9_quill_11 : decode cX9_quill 11 = .ok (.ireturn, 1) := by decide +kernel
set_option maxRecDepth 20000 in
theorem ggX9_blot_X3_empty : GoodIn wsX9_blot wsX3_empty := goodIn_r _ [6, 7, 21, 22] (by decide +kernel) (by decide +kernel)
set_option maxRecDepth 20000 in
theorem gX9_blot_X3_empty : GoodIn wsX9_blot (wsV RX9 86 RX3 yX3_empty wsX3_empty) := goodIn_app (goodIn_of _ (by decide +kernel)) ggX9_blot_X3_empty
theorem dX9_blot_0 : decode cX9_blot 0 = .ok (.aload_n 0, 1) := by decide +kernel
theorem dX9_blot_1 : decode cX9_blot 1 = .ok (.getfield 21, 3) := by decide +kernel
theorem dX9_blot_4 : decode cX9_blot 4 = .ok (.getfield 104, 3) := by decide +kernel
theorem dX9_blot_7 : decode cX9_blot 7 = .ok (.invokevirtual 86, 3) := by decide +kernel
theorem dX9_blot_10 : decode cX9_blot 10 = .ok (.ireturn, 1) := by decide +kernel
set_option maxRecDepth 20000 in
theorem ggX9_slip_X5_firstFault : GoodIn wsX9_slip wsX5_firstFault := goodIn_r _ [7, 8, 9, 10, 11, 12, 13, 14, 15, 16, 17, 6, 18, 19, 20, 21, 22, 23, 24, 25, 26, 27, 28, 29, 30, 31, 32, 33, 34, 35, 36, 37, 38, 50, 51, 52, 53, 54, 55, 56, 57, 58] (by decide +kernel) (by decide +kernel)
set_option maxRecDepth 20000 in
theorem gX9_slip_X5_firstFault : GoodIn wsX9_slip (wsV RX9 107 RX5 yX5_firstFault wsX5_firstFault) := goodIn_app (goodIn_of _ (by decide +kernel)) ggX9_slip_X5_firstFault
theorem dX9_slip_0 : decode cX9_slip 0 = .ok (.aload_n 0, 1) := by decide +kernel
theorem dX9_slip_1 : decode cX9_slip 1 = .ok (.getfield 21, 3) := by decide +kernel
theorem dX9_slip_4 : decode cX9_slip 4 = .ok (.aload_n 0, 1) := by decide +kernel
theorem dX9_slip_5 : decode cX9_slip 5 = .ok (.getfield 28, 3) := by decide +kernel
theorem dX9_slip_8 : decode cX9_slip 8 = .ok (.invokevirtual 107, 3) := by decide +kernel
theorem dX9_slip_11 : decode cX9_slip 11 = .ok (.ireturn, 1) := by decide +kernel
set_option maxRecDepth 20000 in
theorem ggX9_about_X8_count : GoodIn wsX9_about wsX8_count := goodIn_r _ [10, 11, 12, 13, 14, 15, 16, 17] (by decide +kernel) (by decide +kernel)
set_option maxRecDepth 20000 in
theorem gX9_about_X8_count : GoodIn wsX9_about (va_wsS RX9 116 yX8_count wsX8_count) := goodIn_app (goodIn_of _ (by decide +kernel)) ggX9_about_X8_count
set_option maxRecDepth 20000 in
theorem ggX9_about_X8_trueDays : GoodIn wsX9_about wsX8_trueDays := goodIn_r _ [20] (by decide +kernel) (by decide +kernel)
set_option maxRecDepth 20000 in
theorem gX9_about_X8_trueDays : GoodIn wsX9_about (va_wsS RX9 138 yX8_trueDays wsX8_trueDays) := goodIn_app (goodIn_of _ (by decide +kernel)) ggX9_about_X8_trueDays
theorem dX9_about_0 : decode cX9_about 0 = .ok (.iload_n 1, 1) := by decide +kernel
theorem dX9_about_1 : decode cX9_about 1 = .ok (.tableswitch 176 0 11 #[63, 71, 79, 90, 106, 114, 122, 130, 138, 146, 157, 168], 63) := by decide +kernel
theorem dX9_about_64 : decode cX9_about 64 = .ok (.aload_n 0, 1) := by decide +kernel
theorem dX9_about_65 : decode cX9_about 65 = .ok (.getfield 28, 3) := by decide +kernel
theorem dX9_about_68 : decode cX9_about 68 = .ok (.getfield 101, 3) := by decide +kernel
theorem dX9_about_71 : decode cX9_about 71 = .ok (.ireturn, 1) := by decide +kernel
theorem dX9_about_72 : decode cX9_about 72 = .ok (.aload_n 0, 1) := by decide +kernel
theorem dX9_about_73 : decode cX9_about 73 = .ok (.getfield 35, 3) := by decide +kernel
theorem dX9_about_76 : decode cX9_about 76 = .ok (.getfield 110, 3) := by decide +kernel
theorem dX9_about_79 : decode cX9_about 79 = .ok (.ireturn, 1) := by decide +kernel
theorem dX9_about_80 : decode cX9_about 80 = .ok (.aload_n 0, 1) := by decide +kernel
theorem dX9_about_81 : decode cX9_about 81 = .ok (.getfield 35, 3) := by decide +kernel
theorem dX9_about_84 : decode cX9_about 84 = .ok (.getfield 113, 3) := by decide +kernel
theorem dX9_about_87 : decode cX9_about 87 = .ok (.invokestatic 116, 3) := by decide +kernel
theorem dX9_about_90 : decode cX9_about 90 = .ok (.ireturn, 1) := by decide +kernel
theorem dX9_about_91 : decode cX9_about 91 = .ok (.aload_n 0, 1) := by decide +kernel
theorem dX9_about_92 : decode cX9_about 92 = .ok (.getfield 35, 3) := by decide +kernel
theorem dX9_about_95 : decode cX9_about 95 = .ok (.getfield 122, 3) := by decide +kernel
theorem dX9_about_98 : decode cX9_about 98 = .ok (.ifCond .eq 7, 3) := by decide +kernel
theorem dX9_about_101 : decode cX9_about 101 = .ok (.iconst 1, 1) := by decide +kernel
theorem dX9_about_102 : decode cX9_about 102 = .ok (.goto 4, 3) := by decide +kernel
theorem dX9_about_105 : decode cX9_about 105 = .ok (.iconst 0, 1) := by decide +kernel
theorem dX9_about_106 : decode cX9_about 106 = .ok (.ireturn, 1) := by decide +kernel
theorem dX9_about_107 : decode cX9_about 107 = .ok (.aload_n 0, 1) := by decide +kernel
theorem dX9_about_108 : decode cX9_about 108 = .ok (.getfield 35, 3) := by decide +kernel
theorem dX9_about_111 : decode cX9_about 111 = .ok (.getfield 126, 3) := by decide +kernel
theorem dX9_about_114 : decode cX9_about 114 = .ok (.ireturn, 1) := by decide +kernel
theorem dX9_about_115 : decode cX9_about 115 = .ok (.aload_n 0, 1) := by decide +kernel
theorem dX9_about_116 : decode cX9_about 116 = .ok (.getfield 35, 3) := by decide +kernel
theorem dX9_about_119 : decode cX9_about 119 = .ok (.getfield 129, 3) := by decide +kernel
theorem dX9_about_122 : decode cX9_about 122 = .ok (.ireturn, 1) := by decide +kernel
theorem dX9_about_123 : decode cX9_about 123 = .ok (.aload_n 0, 1) := by decide +kernel
theorem dX9_about_124 : decode cX9_about 124 = .ok (.getfield 42, 3) := by decide +kernel
theorem dX9_about_127 : decode cX9_about 127 = .ok (.getfield 132, 3) := by decide +kernel
theorem dX9_about_130 : decode cX9_about 130 = .ok (.ireturn, 1) := by decide +kernel
theorem dX9_about_131 : decode cX9_about 131 = .ok (.aload_n 0, 1) := by decide +kernel
theorem dX9_about_132 : decode cX9_about 132 = .ok (.getfield 49, 3) := by decide +kernel
theorem dX9_about_135 : decode cX9_about 135 = .ok (.getfield 134, 3) := by decide +kernel
theorem dX9_about_138 : decode cX9_about 138 = .ok (.ireturn, 1) := by decide +kernel
theorem dX9_about_139 : decode cX9_about 139 = .ok (.aload_n 0, 1) := by decide +kernel
theorem dX9_about_140 : decode cX9_about 140 = .ok (.getfield 14, 3) := by decide +kernel
theorem dX9_about_143 : decode cX9_about 143 = .ok (.getfield 135, 3) := by decide +kernel
theorem dX9_about_146 : decode cX9_about 146 = .ok (.ireturn, 1) := by decide +kernel
theorem dX9_about_147 : decode cX9_about 147 = .ok (.aload_n 0, 1) := by decide +kernel
theorem dX9_about_148 : decode cX9_about 148 = .ok (.getfield 21, 3) := by decide +kernel
theorem dX9_about_151 : decode cX9_about 151 = .ok (.getfield 104, 3) := by decide +kernel
theorem dX9_about_154 : decode cX9_about 154 = .ok (.getfield 135, 3) := by decide +kernel
theorem dX9_about_157 : decode cX9_about 157 = .ok (.ireturn, 1) := by decide +kernel
theorem dX9_about_158 : decode cX9_about 158 = .ok (.aload_n 0, 1) := by decide +kernel
theorem dX9_about_159 : decode cX9_about 159 = .ok (.getfield 35, 3) := by decide +kernel
theorem dX9_about_162 : decode cX9_about 162 = .ok (.getfield 113, 3) := by decide +kernel
theorem dX9_about_165 : decode cX9_about 165 = .ok (.invokestatic 138, 3) := by decide +kernel
theorem dX9_about_168 : decode cX9_about 168 = .ok (.ireturn, 1) := by decide +kernel
theorem dX9_about_169 : decode cX9_about 169 = .ok (.aload_n 0, 1) := by decide +kernel
theorem dX9_about_170 : decode cX9_about 170 = .ok (.getfield 35, 3) := by decide +kernel
theorem dX9_about_173 : decode cX9_about 173 = .ok (.getfield 141, 3) := by decide +kernel
theorem dX9_about_176 : decode cX9_about 176 = .ok (.ireturn, 1) := by decide +kernel
theorem dX9_about_177 : decode cX9_about 177 = .ok (.bipush (-2), 2) := by decide +kernel
theorem dX9_about_179 : decode cX9_about 179 = .ok (.ireturn, 1) := by decide +kernel
set_option maxRecDepth 20000 in
theorem ggX9_fact_X1_hasFact : GoodIn wsX9_fact wsX1_hasFact := goodIn_r _ [6, 7, 39, 40, 41, 42, 43] (by decide +kernel) (by decide +kernel)
set_option maxRecDepth 20000 in
theorem gX9_fact_X1_hasFact : GoodIn wsX9_fact (wsV RX9 144 RX1 yX1_hasFact wsX1_hasFact) := goodIn_app (goodIn_of _ (by decide +kernel)) ggX9_fact_X1_hasFact
set_option maxRecDepth 20000 in
theorem ggX9_fact_X9_knownOfFact : GoodIn wsX9_fact wsX9_knownOfFact := goodIn_r _ [12, 13, 14, 15, 16, 17, 18, 19, 11, 20, 21, 22, 23, 24, 25, 26, 27, 28, 29, 30, 31, 32, 33, 34, 35, 36, 37, 38, 44, 45, 46, 47, 48, 49] (by decide +kernel) (by decide +kernel)
set_option maxRecDepth 20000 in
theorem gX9_fact_X9_knownOfFact : GoodIn wsX9_fact (wsV RX9 154 RX9 yX9_knownOfFact wsX9_knownOfFact) := goodIn_app (goodIn_of _ (by decide +kernel)) ggX9_fact_X9_knownOfFact
theorem dX9_fact_0 : decode cX9_fact 0 = .ok (.aload_n 0, 1) := by decide +kernel
theorem dX9_fact_1 : decode cX9_fact 1 = .ok (.getfield 28, 3) := by decide +kernel
theorem dX9_fact_4 : decode cX9_fact 4 = .ok (.iload_n 1, 1) := by decide +kernel
theorem dX9_fact_5 : decode cX9_fact 5 = .ok (.invokevirtual 144, 3) := by decide +kernel
theorem dX9_fact_8 : decode cX9_fact 8 = .ok (.ifCond .ne 5, 3) := by decide +kernel
theorem dX9_fact_11 : decode cX9_fact 11 = .ok (.iconst (-1), 1) := by decide +kernel
theorem dX9_fact_12 : decode cX9_fact 12 = .ok (.ireturn, 1) := by decide +kernel
theorem dX9_fact_13 : decode cX9_fact 13 = .ok (.iload_n 2, 1) := by decide +kernel
theorem dX9_fact_14 : decode cX9_fact 14 = .ok (.tableswitch 56 0 2 #[26, 38, 50], 26) := by decide +kernel
theorem dX9_fact_40 : decode cX9_fact 40 = .ok (.aload_n 0, 1) := by decide +kernel
theorem dX9_fact_41 : decode cX9_fact 41 = .ok (.getfield 28, 3) := by decide +kernel
theorem dX9_fact_44 : decode cX9_fact 44 = .ok (.getfield 148, 3) := by decide +kernel
theorem dX9_fact_47 : decode cX9_fact 47 = .ok (.iload_n 1, 1) := by decide +kernel
theorem dX9_fact_48 : decode cX9_fact 48 = .ok (.ishr, 1) := by decide +kernel
theorem dX9_fact_49 : decode cX9_fact 49 = .ok (.iconst 1, 1) := by decide +kernel
theorem dX9_fact_50 : decode cX9_fact 50 = .ok (.iand, 1) := by decide +kernel
theorem dX9_fact_51 : decode cX9_fact 51 = .ok (.ireturn, 1) := by decide +kernel
theorem dX9_fact_52 : decode cX9_fact 52 = .ok (.aload_n 0, 1) := by decide +kernel
theorem dX9_fact_53 : decode cX9_fact 53 = .ok (.getfield 28, 3) := by decide +kernel
theorem dX9_fact_56 : decode cX9_fact 56 = .ok (.getfield 151, 3) := by decide +kernel
theorem dX9_fact_59 : decode cX9_fact 59 = .ok (.iload_n 1, 1) := by decide +kernel
theorem dX9_fact_60 : decode cX9_fact 60 = .ok (.ishr, 1) := by decide +kernel
theorem dX9_fact_61 : decode cX9_fact 61 = .ok (.iconst 1, 1) := by decide +kernel
theorem dX9_fact_62 : decode cX9_fact 62 = .ok (.iand, 1) := by decide +kernel
theorem dX9_fact_63 : decode cX9_fact 63 = .ok (.ireturn, 1) := by decide +kernel
theorem dX9_fact_64 : decode cX9_fact 64 = .ok (.aload_n 0, 1) := by decide +kernel
theorem dX9_fact_65 : decode cX9_fact 65 = .ok (.iload_n 1, 1) := by decide +kernel
theorem dX9_fact_66 : decode cX9_fact 66 = .ok (.invokevirtual 154, 3) := by decide +kernel
theorem dX9_fact_69 : decode cX9_fact 69 = .ok (.ireturn, 1) := by decide +kernel
theorem dX9_fact_70 : decode cX9_fact 70 = .ok (.bipush (-2), 2) := by decide +kernel
theorem dX9_fact_72 : decode cX9_fact 72 = .ok (.ireturn, 1) := by decide +kernel
set_option maxRecDepth 20000 in
theorem ggX9_knownOfFact_X8_casesOfAnyDay : GoodIn wsX9_knownOfFact wsX8_casesOfAnyDay := goodIn_r _ [5] (by decide +kernel) (by decide +kernel)
set_option maxRecDepth 20000 in
theorem gX9_knownOfFact_X8_casesOfAnyDay : GoodIn wsX9_knownOfFact (va_wsS RX9 157 yX8_casesOfAnyDay wsX8_casesOfAnyDay) := goodIn_app (goodIn_of _ (by decide +kernel)) ggX9_knownOfFact_X8_casesOfAnyDay
set_option maxRecDepth 20000 in
theorem ggX9_knownOfFact_X9_isSoInAll : GoodIn wsX9_knownOfFact wsX9_isSoInAll := goodIn_r _ [9, 10, 11, 8, 12, 13] (by decide +kernel) (by decide +kernel)
set_option maxRecDepth 20000 in
theorem gX9_knownOfFact_X9_isSoInAll : GoodIn wsX9_knownOfFact (va_wsS RX9 160 yX9_isSoInAll wsX9_isSoInAll) := goodIn_app (goodIn_of _ (by decide +kernel)) ggX9_knownOfFact_X9_isSoInAll
set_option maxRecDepth 20000 in
theorem ggX9_knownOfFact_X9_isSoInNone : GoodIn wsX9_knownOfFact wsX9_isSoInNone := goodIn_r _ [16, 10, 11, 8, 12, 13] (by decide +kernel) (by decide +kernel)
set_option maxRecDepth 20000 in
theorem gX9_knownOfFact_X9_isSoInNone : GoodIn wsX9_knownOfFact (va_wsS RX9 164 yX9_isSoInNone wsX9_isSoInNone) := goodIn_app (goodIn_of _ (by decide +kernel)) ggX9_knownOfFact_X9_isSoInNone
theorem dX9_knownOfFact_0 : decode cX9_knownOfFact 0 = .ok (.aload_n 0, 1) := by decide +kernel
theorem dX9_knownOfFact_1 : decode cX9_knownOfFact 1 = .ok (.getfield 35, 3) := by decide +kernel
theorem dX9_knownOfFact_4 : decode cX9_knownOfFact 4 = .ok (.getfield 113, 3) := by decide +kernel
theorem dX9_knownOfFact_7 : decode cX9_knownOfFact 7 = .ok (.invokestatic 157, 3) := by decide +kernel
theorem dX9_knownOfFact_10 : decode cX9_knownOfFact 10 = .ok (.istore_n 2, 1) := by decide +kernel
theorem dX9_knownOfFact_11 : decode cX9_knownOfFact 11 = .ok (.iload_n 2, 1) := by decide +kernel
theorem dX9_knownOfFact_12 : decode cX9_knownOfFact 12 = .ok (.iload_n 1, 1) := by decide +kernel
theorem dX9_knownOfFact_13 : decode cX9_knownOfFact 13 = .ok (.invokestatic 160, 3) := by decide +kernel
theorem dX9_knownOfFact_16 : decode cX9_knownOfFact 16 = .ok (.ifCond .eq 5, 3) := by decide +kernel
theorem dX9_knownOfFact_19 : decode cX9_knownOfFact 19 = .ok (.iconst 1, 1) := by decide +kernel
theorem dX9_knownOfFact_20 : decode cX9_knownOfFact 20 = .ok (.ireturn, 1) := by decide +kernel
theorem dX9_knownOfFact_21 : decode cX9_knownOfFact 21 = .ok (.iload_n 2, 1) := by decide +kernel
theorem dX9_knownOfFact_22 : decode cX9_knownOfFact 22 = .ok (.iload_n 1, 1) := by decide +kernel
theorem dX9_knownOfFact_23 : decode cX9_knownOfFact 23 = .ok (.invokestatic 164, 3) := by decide +kernel
theorem dX9_knownOfFact_26 : decode cX9_knownOfFact 26 = .ok (.ifCond .eq 7, 3) := by decide +kernel
theorem dX9_knownOfFact_29 : decode cX9_knownOfFact 29 = .ok (.iconst 0, 1) := by decide +kernel
theorem dX9_knownOfFact_30 : decode cX9_knownOfFact 30 = .ok (.goto 5, 3) := by decide +kernel
theorem dX9_knownOfFact_33 : decode cX9_knownOfFact 33 = .ok (.bipush (-9), 2) := by decide +kernel
theorem dX9_knownOfFact_35 : decode cX9_knownOfFact 35 = .ok (.ireturn, 1) := by decide +kernel
set_option maxRecDepth 20000 in
theorem ggX9_ask_X9_hasSlip : GoodIn wsX9_ask wsX9_hasSlip := goodIn_r _ [10, 4, 5, 11, 12, 13, 14, 15, 16, 17, 18, 19, 20, 21, 22, 23, 24, 25, 26, 27, 28, 29, 30, 31, 32, 33, 34, 35, 36, 37, 38, 39, 40, 41, 42, 43, 44, 45, 46, 119, 120, 121, 122, 123, 124, 125, 126, 127, 128, 129, 141, 142, 143, 144, 136, 137, 138, 139, 140] (by decide +kernel) (by decide +kernel)
set_option maxRecDepth 20000 in
theorem gX9_ask_X9_hasSlip : GoodIn wsX9_ask (wsV RX9 167 RX9 yX9_hasSlip wsX9_hasSlip) := goodIn_app (goodIn_of _ (by decide +kernel)) ggX9_ask_X9_hasSlip
set_option maxRecDepth 20000 in
theorem ggX9_ask_X4_canBeAsked : GoodIn wsX9_ask wsX4_canBeAsked := goodIn_r _ [51, 52, 53, 54, 130, 131, 132, 133, 134, 135] (by decide +kernel) (by decide +kernel)
set_option maxRecDepth 20000 in
theorem gX9_ask_X4_canBeAsked : GoodIn wsX9_ask (wsV RX9 171 RX4 yX4_canBeAsked wsX4_canBeAsked) := goodIn_app (goodIn_of _ (by decide +kernel)) ggX9_ask_X4_canBeAsked
set_option maxRecDepth 20000 in
theorem ggX9_ask_X0_remember : GoodIn wsX9_ask wsX0_remember := goodIn_r _ [59, 60, 61, 62, 63, 64, 65, 66, 67, 68, 69, 70, 50, 71, 72, 73, 52, 53, 54, 74, 75, 76, 77, 78, 145, 146, 147, 148, 130, 131, 132, 133, 134, 135] (by decide +kernel) (by decide +kernel)
set_option maxRecDepth 20000 in
theorem gX9_ask_X0_remember : GoodIn wsX9_ask (wsV RX9 178 RX0 yX0_remember wsX0_remember) := goodIn_app (goodIn_of _ (by decide +kernel)) ggX9_ask_X0_remember
set_option maxRecDepth 20000 in
theorem ggX9_ask_X4_weekday : GoodIn wsX9_ask wsX4_weekday := goodIn_r _ [82, 72, 130, 131, 132, 133, 134, 135] (by decide +kernel) (by decide +kernel)
set_option maxRecDepth 20000 in
theorem gX9_ask_X4_weekday : GoodIn wsX9_ask (wsV RX9 182 RX4 yX4_weekday wsX4_weekday) := goodIn_app (goodIn_of _ (by decide +kernel)) ggX9_ask_X4_weekday
set_option maxRecDepth 20000 in
theorem ggX9_ask_X5_answerIn : GoodIn wsX9_ask wsX5_answerIn := goodIn_r _ [86, 87, 88, 89, 14, 90, 91, 92, 93, 94, 16, 95, 17, 18, 19, 20, 21, 22, 23, 27, 28, 29, 96, 97, 98, 30, 31, 32, 99, 100, 40, 101, 102, 9, 103, 104, 105, 106, 107, 39, 41, 108, 109, 110, 111, 112, 113, 114, 141, 142, 143, 144] (by decide +kernel) (by decide +kernel)
set_option maxRecDepth 20000 in
theorem gX9_ask_X5_answerIn : GoodIn wsX9_ask (wsV RX9 185 RX5 yX5_answerIn wsX5_answerIn) := goodIn_app (goodIn_of _ (by decide +kernel)) ggX9_ask_X5_answerIn
set_option maxRecDepth 20000 in
theorem ggX9_ask_X5_casesAnswered : GoodIn wsX9_ask wsX5_casesAnswered := goodIn_r _ [90, 91, 92, 93, 14, 94, 16, 95, 17, 18, 19, 20, 21, 22, 23, 27, 28, 29, 96, 97, 98, 30, 31, 32, 99, 100, 40, 101, 102, 9, 103, 104, 105, 106, 107, 39, 41, 108, 109, 110, 111, 112, 141, 142, 143, 144] (by decide +kernel) (by decide +kernel)
set_option maxRecDepth 20000 in
theorem gX9_ask_X5_casesAnswered : GoodIn wsX9_ask (wsV RX9 189 RX5 yX5_casesAnswered wsX5_casesAnswered) := goodIn_app (goodIn_of _ (by decide +kernel)) ggX9_ask_X5_casesAnswered
set_option maxRecDepth 20000 in
theorem ggX9_ask_X9_told : GoodIn wsX9_ask wsX9_told := goodIn_r _ [118] (by decide +kernel) (by decide +kernel)
set_option maxRecDepth 20000 in
theorem gX9_ask_X9_told : GoodIn wsX9_ask (va_wsS RX9 192 yX9_told wsX9_told) := goodIn_app (goodIn_of _ (by decide +kernel)) ggX9_ask_X9_told
theorem dX9_ask_0 : decode cX9_ask 0 = .ok (.aload_n 0, 1) := by decide +kernel
theorem dX9_ask_1 : decode cX9_ask 1 = .ok (.invokevirtual 167, 3) := by decide +kernel
theorem dX9_ask_4 : decode cX9_ask 4 = .ok (.ifCond .ne 13, 3) := by decide +kernel
theorem dX9_ask_7 : decode cX9_ask 7 = .ok (.aload_n 0, 1) := by decide +kernel
theorem dX9_ask_8 : decode cX9_ask 8 = .ok (.getfield 35, 3) := by decide +kernel
theorem dX9_ask_11 : decode cX9_ask 11 = .ok (.invokevirtual 171, 3) := by decide +kernel
theorem dX9_ask_14 : decode cX9_ask 14 = .ok (.ifCond .ne 6, 3) := by decide +kernel
theorem dX9_ask_17 : decode cX9_ask 17 = .ok (.bipush (-3), 2) := by decide +kernel
theorem dX9_ask_19 : decode cX9_ask 19 = .ok (.ireturn, 1) := by decide +kernel
theorem dX9_ask_20 : decode cX9_ask 20 = .ok (.aload_n 0, 1) := by decide +kernel
theorem dX9_ask_21 : decode cX9_ask 21 = .ok (.getfield 42, 3) := by decide +kernel
theorem dX9_ask_24 : decode cX9_ask 24 = .ok (.aload_n 0, 1) := by decide +kernel
theorem dX9_ask_25 : decode cX9_ask 25 = .ok (.getfield 35, 3) := by decide +kernel
theorem dX9_ask_28 : decode cX9_ask 28 = .ok (.aload_n 0, 1) := by decide +kernel
theorem dX9_ask_29 : decode cX9_ask 29 = .ok (.getfield 174, 3) := by decide +kernel
theorem dX9_ask_32 : decode cX9_ask 32 = .ok (.invokevirtual 178, 3) := by decide +kernel
theorem dX9_ask_35 : decode cX9_ask 35 = .ok (.aload_n 0, 1) := by decide +kernel
theorem dX9_ask_36 : decode cX9_ask 36 = .ok (.getfield 35, 3) := by decide +kernel
theorem dX9_ask_39 : decode cX9_ask 39 = .ok (.invokevirtual 182, 3) := by decide +kernel
theorem dX9_ask_42 : decode cX9_ask 42 = .ok (.istore_n 1, 1) := by decide +kernel
theorem dX9_ask_43 : decode cX9_ask 43 = .ok (.aload_n 0, 1) := by decide +kernel
theorem dX9_ask_44 : decode cX9_ask 44 = .ok (.getfield 21, 3) := by decide +kernel
theorem dX9_ask_47 : decode cX9_ask 47 = .ok (.iload_n 1, 1) := by decide +kernel
theorem dX9_ask_48 : decode cX9_ask 48 = .ok (.aload_n 0, 1) := by decide +kernel
theorem dX9_ask_49 : decode cX9_ask 49 = .ok (.getfield 35, 3) := by decide +kernel
theorem dX9_ask_52 : decode cX9_ask 52 = .ok (.getfield 141, 3) := by decide +kernel
theorem dX9_ask_55 : decode cX9_ask 55 = .ok (.aload_n 0, 1) := by decide +kernel
theorem dX9_ask_56 : decode cX9_ask 56 = .ok (.getfield 28, 3) := by decide +kernel
theorem dX9_ask_59 : decode cX9_ask 59 = .ok (.getfield 148, 3) := by decide +kernel
theorem dX9_ask_62 : decode cX9_ask 62 = .ok (.iconst 0, 1) := by decide +kernel
theorem dX9_ask_63 : decode cX9_ask 63 = .ok (.invokevirtual 185, 3) := by decide +kernel
theorem dX9_ask_66 : decode cX9_ask 66 = .ok (.istore_n 2, 1) := by decide +kernel
theorem dX9_ask_67 : decode cX9_ask 67 = .ok (.iconst 0, 1) := by decide +kernel
theorem dX9_ask_68 : decode cX9_ask 68 = .ok (.istore_n 3, 1) := by decide +kernel
theorem dX9_ask_69 : decode cX9_ask 69 = .ok (.iload_n 3, 1) := by decide +kernel
theorem dX9_ask_70 : decode cX9_ask 70 = .ok (.bipush 7, 2) := by decide +kernel
theorem dX9_ask_72 : decode cX9_ask 72 = .ok (.if_icmp .ge 32, 3) := by decide +kernel
theorem dX9_ask_75 : decode cX9_ask 75 = .ok (.aload_n 0, 1) := by decide +kernel
theorem dX9_ask_76 : decode cX9_ask 76 = .ok (.getfield 35, 3) := by decide +kernel
theorem dX9_ask_79 : decode cX9_ask 79 = .ok (.getfield 113, 3) := by decide +kernel
theorem dX9_ask_82 : decode cX9_ask 82 = .ok (.iload_n 3, 1) := by decide +kernel
theorem dX9_ask_83 : decode cX9_ask 83 = .ok (.dup2, 1) := by decide +kernel
theorem dX9_ask_84 : decode cX9_ask 84 = .ok (.iaload, 1) := by decide +kernel
theorem dX9_ask_85 : decode cX9_ask 85 = .ok (.aload_n 0, 1) := by decide +kernel
theorem dX9_ask_86 : decode cX9_ask 86 = .ok (.getfield 21, 3) := by decide +kernel
theorem dX9_ask_89 : decode cX9_ask 89 = .ok (.iload_n 2, 1) := by decide +kernel
theorem dX9_ask_90 : decode cX9_ask 90 = .ok (.iload_n 1, 1) := by decide +kernel
theorem dX9_ask_91 : decode cX9_ask 91 = .ok (.iload_n 3, 1) := by decide +kernel
theorem dX9_ask_92 : decode cX9_ask 92 = .ok (.iconst 0, 1) := by decide +kernel
theorem dX9_ask_93 : decode cX9_ask 93 = .ok (.invokevirtual 189, 3) := by decide +kernel
theorem dX9_ask_96 : decode cX9_ask 96 = .ok (.iand, 1) := by decide +kernel
theorem dX9_ask_97 : decode cX9_ask 97 = .ok (.iastore, 1) := by decide +kernel
theorem dX9_ask_98 : decode cX9_ask 98 = .ok (.iinc 3 1, 3) := by decide +kernel
theorem dX9_ask_101 : decode cX9_ask 101 = .ok (.goto (-32), 3) := by decide +kernel
theorem dX9_ask_104 : decode cX9_ask 104 = .ok (.aload_n 0, 1) := by decide +kernel
theorem dX9_ask_105 : decode cX9_ask 105 = .ok (.getfield 35, 3) := by decide +kernel
theorem dX9_ask_108 : decode cX9_ask 108 = .ok (.iconst 1, 1) := by decide +kernel
theorem dX9_ask_109 : decode cX9_ask 109 = .ok (.putfield 122, 3) := by decide +kernel
theorem dX9_ask_112 : decode cX9_ask 112 = .ok (.iload_n 2, 1) := by decide +kernel
theorem dX9_ask_113 : decode cX9_ask 113 = .ok (.iconst 2, 1) := by decide +kernel
theorem dX9_ask_114 : decode cX9_ask 114 = .ok (.if_icmp .ne 16, 3) := by decide +kernel
theorem dX9_ask_117 : decode cX9_ask 117 = .ok (.aload_n 0, 1) := by decide +kernel
theorem dX9_ask_118 : decode cX9_ask 118 = .ok (.getfield 35, 3) := by decide +kernel
theorem dX9_ask_121 : decode cX9_ask 121 = .ok (.dup, 1) := by decide +kernel
theorem dX9_ask_122 : decode cX9_ask 122 = .ok (.getfield 129, 3) := by decide +kernel
theorem dX9_ask_125 : decode cX9_ask 125 = .ok (.iconst 1, 1) := by decide +kernel
theorem dX9_ask_126 : decode cX9_ask 126 = .ok (.iadd, 1) := by decide +kernel
theorem dX9_ask_127 : decode cX9_ask 127 = .ok (.putfield 129, 3) := by decide +kernel
theorem dX9_ask_130 : decode cX9_ask 130 = .ok (.iload_n 2, 1) := by decide +kernel
theorem dX9_ask_131 : decode cX9_ask 131 = .ok (.invokestatic 192, 3) := by decide +kernel
theorem dX9_ask_134 : decode cX9_ask 134 = .ok (.ireturn, 1) := by decide +kernel
set_option maxRecDepth 20000 in
theorem ggX9_day_X0_remember : GoodIn wsX9_day wsX0_remember := goodIn_r _ [8, 9, 10, 11, 12, 13, 14, 15, 16, 17, 18, 19, 20, 21, 22, 23, 24, 25, 26, 27, 28, 29, 30, 31, 74, 75, 76, 77, 68, 69, 70, 71, 72, 73] (by decide +kernel) (by decide +kernel)
set_option maxRecDepth 20000 in
theorem gX9_day_X0_remember : GoodIn wsX9_day (wsV RX9 178 RX0 yX0_remember wsX0_remember) := goodIn_app (goodIn_of _ (by decide +kernel)) ggX9_day_X0_remember
set_option maxRecDepth 20000 in
theorem ggX9_day_X4_dayGoesBy : GoodIn wsX9_day wsX4_dayGoesBy := goodIn_r _ [35, 22, 24, 25, 68, 69, 70, 71, 72, 73] (by decide +kernel) (by decide +kernel)
set_option maxRecDepth 20000 in
theorem gX9_day_X4_dayGoesBy : GoodIn wsX9_day (wsV RX9 195 RX4 yX4_dayGoesBy wsX4_dayGoesBy) := goodIn_app (goodIn_of _ (by decide +kernel)) ggX9_day_X4_dayGoesBy
set_option maxRecDepth 20000 in
theorem ggX9_day_X9_nextSeed : GoodIn wsX9_day wsX9_nextSeed := goodIn_r _ [39, 40, 41] (by decide +kernel) (by decide +kernel)
set_option maxRecDepth 20000 in
theorem gX9_day_X9_nextSeed : GoodIn wsX9_day (va_wsS RX9 198 yX9_nextSeed wsX9_nextSeed) := goodIn_app (goodIn_of _ (by decide +kernel)) ggX9_day_X9_nextSeed
set_option maxRecDepth 20000 in
theorem ggX9_day_X9_drawnDay : GoodIn wsX9_day wsX9_drawnDay := goodIn_r _ [44, 45] (by decide +kernel) (by decide +kernel)
set_option maxRecDepth 20000 in
theorem gX9_day_X9_drawnDay : GoodIn wsX9_day (va_wsS RX9 202 yX9_drawnDay wsX9_drawnDay) := goodIn_app (goodIn_of _ (by decide +kernel)) ggX9_day_X9_drawnDay
set_option maxRecDepth 20000 in
theorem ggX9_day_X4_beginMonth : GoodIn wsX9_day wsX4_beginMonth := goodIn_r _ [49, 23, 27, 50, 51, 52, 53, 54, 55, 56, 68, 69, 70, 71, 72, 73] (by decide +kernel) (by decide +kernel)
set_option maxRecDepth 20000 in
theorem gX9_day_X4_beginMonth : GoodIn wsX9_day (wsV RX9 206 RX4 yX4_beginMonth wsX4_beginMonth) := goodIn_app (goodIn_of _ (by decide +kernel)) ggX9_day_X4_beginMonth
theorem dX9_day_0 : decode cX9_day 0 = .ok (.aload_n 0, 1) := by decide +kernel
theorem dX9_day_1 : decode cX9_day 1 = .ok (.getfield 42, 3) := by decide +kernel
theorem dX9_day_4 : decode cX9_day 4 = .ok (.aload_n 0, 1) := by decide +kernel
theorem dX9_day_5 : decode cX9_day 5 = .ok (.getfield 35, 3) := by decide +kernel
theorem dX9_day_8 : decode cX9_day 8 = .ok (.aload_n 0, 1) := by decide +kernel
theorem dX9_day_9 : decode cX9_day 9 = .ok (.getfield 174, 3) := by decide +kernel
theorem dX9_day_12 : decode cX9_day 12 = .ok (.invokevirtual 178, 3) := by decide +kernel
theorem dX9_day_15 : decode cX9_day 15 = .ok (.aload_n 0, 1) := by decide +kernel
theorem dX9_day_16 : decode cX9_day 16 = .ok (.getfield 35, 3) := by decide +kernel
theorem dX9_day_19 : decode cX9_day 19 = .ok (.invokevirtual 195, 3) := by decide +kernel
theorem dX9_day_22 : decode cX9_day 22 = .ok (.ifCond .eq 28, 3) := by decide +kernel
theorem dX9_day_25 : decode cX9_day 25 = .ok (.aload_n 0, 1) := by decide +kernel
theorem dX9_day_26 : decode cX9_day 26 = .ok (.aload_n 0, 1) := by decide +kernel
theorem dX9_day_27 : decode cX9_day 27 = .ok (.getfield 174, 3) := by decide +kernel
theorem dX9_day_30 : decode cX9_day 30 = .ok (.invokestatic 198, 3) := by decide +kernel
theorem dX9_day_33 : decode cX9_day 33 = .ok (.putfield 174, 3) := by decide +kernel
theorem dX9_day_36 : decode cX9_day 36 = .ok (.aload_n 0, 1) := by decide +kernel
theorem dX9_day_37 : decode cX9_day 37 = .ok (.getfield 35, 3) := by decide +kernel
theorem dX9_day_40 : decode cX9_day 40 = .ok (.aload_n 0, 1) := by decide +kernel
theorem dX9_day_41 : decode cX9_day 41 = .ok (.getfield 174, 3) := by decide +kernel
theorem dX9_day_44 : decode cX9_day 44 = .ok (.invokestatic 202, 3) := by decide +kernel
theorem dX9_day_47 : decode cX9_day 47 = .ok (.invokevirtual 206, 3) := by decide +kernel
theorem dX9_day_50 : decode cX9_day 50 = .ok (.aload_n 0, 1) := by decide +kernel
theorem dX9_day_51 : decode cX9_day 51 = .ok (.getfield 35, 3) := by decide +kernel
theorem dX9_day_54 : decode cX9_day 54 = .ok (.getfield 110, 3) := by decide +kernel
theorem dX9_day_57 : decode cX9_day 57 = .ok (.ireturn, 1) := by decide +kernel
set_option maxRecDepth 20000 in
theorem ggX9_cloth_X0_remember : GoodIn wsX9_cloth wsX0_remember := goodIn_r _ [8, 9, 10, 11, 12, 13, 14, 15, 16, 17, 18, 19, 20, 21, 22, 23, 24, 25, 26, 27, 28, 29, 30, 31, 49, 50, 51, 52, 43, 44, 45, 46, 47, 48] (by decide +kernel) (by decide +kernel)
set_option maxRecDepth 20000 in
theorem gX9_cloth_X0_remember : GoodIn wsX9_cloth (wsV RX9 178 RX0 yX0_remember wsX0_remember) := goodIn_app (goodIn_of _ (by decide +kernel)) ggX9_cloth_X0_remember
theorem dX9_cloth_0 : decode cX9_cloth 0 = .ok (.aload_n 0, 1) := by decide +kernel
theorem dX9_cloth_1 : decode cX9_cloth 1 = .ok (.getfield 42, 3) := by decide +kernel
theorem dX9_cloth_4 : decode cX9_cloth 4 = .ok (.aload_n 0, 1) := by decide +kernel
theorem dX9_cloth_5 : decode cX9_cloth 5 = .ok (.getfield 35, 3) := by decide +kernel
theorem dX9_cloth_8 : decode cX9_cloth 8 = .ok (.aload_n 0, 1) := by decide +kernel
theorem dX9_cloth_9 : decode cX9_cloth 9 = .ok (.getfield 174, 3) := by decide +kernel
theorem dX9_cloth_12 : decode cX9_cloth 12 = .ok (.invokevirtual 178, 3) := by decide +kernel
theorem dX9_cloth_15 : decode cX9_cloth 15 = .ok (.aload_n 0, 1) := by decide +kernel
theorem dX9_cloth_16 : decode cX9_cloth 16 = .ok (.getfield 35, 3) := by decide +kernel
theorem dX9_cloth_19 : decode cX9_cloth 19 = .ok (.aload_n 0, 1) := by decide +kernel
theorem dX9_cloth_20 : decode cX9_cloth 20 = .ok (.getfield 35, 3) := by decide +kernel
theorem dX9_cloth_23 : decode cX9_cloth 23 = .ok (.getfield 126, 3) := by decide +kernel
theorem dX9_cloth_26 : decode cX9_cloth 26 = .ok (.iconst 1, 1) := by decide +kernel
theorem dX9_cloth_27 : decode cX9_cloth 27 = .ok (.if_icmp .ne 7, 3) := by decide +kernel
theorem dX9_cloth_30 : decode cX9_cloth 30 = .ok (.iconst 2, 1) := by decide +kernel
theorem dX9_cloth_31 : decode cX9_cloth 31 = .ok (.goto 4, 3) := by decide +kernel
theorem dX9_cloth_34 : decode cX9_cloth 34 = .ok (.iconst 1, 1) := by decide +kernel
theorem dX9_cloth_35 : decode cX9_cloth 35 = .ok (.putfield 126, 3) := by decide +kernel
theorem dX9_cloth_38 : decode cX9_cloth 38 = .ok (.aload_n 0, 1) := by decide +kernel
theorem dX9_cloth_39 : decode cX9_cloth 39 = .ok (.getfield 35, 3) := by decide +kernel
theorem dX9_cloth_42 : decode cX9_cloth 42 = .ok (.getfield 126, 3) := by decide +kernel
theorem dX9_cloth_45 : decode cX9_cloth 45 = .ok (.iconst 1, 1) := by decide +kernel
theorem dX9_cloth_46 : decode cX9_cloth 46 = .ok (.if_icmp .ne 7, 3) := by decide +kernel
theorem dX9_cloth_49 : decode cX9_cloth 49 = .ok (.iconst 1, 1) := by decide +kernel
theorem dX9_cloth_50 : decode cX9_cloth 50 = .ok (.goto 4, 3) := by decide +kernel
theorem dX9_cloth_53 : decode cX9_cloth 53 = .ok (.iconst 0, 1) := by decide +kernel
theorem dX9_cloth_54 : decode cX9_cloth 54 = .ok (.ireturn, 1) := by decide +kernel
set_option maxRecDepth 20000 in
theorem ggX9_undo_X0_takeBack : GoodIn wsX9_undo wsX0_takeBack := goodIn_r _ [8, 9, 10, 11, 12, 13, 14, 15, 16, 17, 18, 19, 20, 21, 22, 23, 24, 25, 26, 27, 39, 40, 41, 42, 43, 44, 45, 46, 47, 48] (by decide +kernel) (by decide +kernel)
set_option maxRecDepth 20000 in
theorem gX9_undo_X0_takeBack : GoodIn wsX9_undo (wsV RX9 209 RX0 yX0_takeBack wsX0_takeBack) := goodIn_app (goodIn_of _ (by decide +kernel)) ggX9_undo_X0_takeBack
theorem dX9_undo_0 : decode cX9_undo 0 = .ok (.aload_n 0, 1) := by decide +kernel
theorem dX9_undo_1 : decode cX9_undo 1 = .ok (.getfield 42, 3) := by decide +kernel
theorem dX9_undo_4 : decode cX9_undo 4 = .ok (.getfield 132, 3) := by decide +kernel
theorem dX9_undo_7 : decode cX9_undo 7 = .ok (.ifCond .ne 6, 3) := by decide +kernel
theorem dX9_undo_10 : decode cX9_undo 10 = .ok (.bipush (-3), 2) := by decide +kernel
theorem dX9_undo_12 : decode cX9_undo 12 = .ok (.ireturn, 1) := by decide +kernel
theorem dX9_undo_13 : decode cX9_undo 13 = .ok (.aload_n 0, 1) := by decide +kernel
theorem dX9_undo_14 : decode cX9_undo 14 = .ok (.aload_n 0, 1) := by decide +kernel
theorem dX9_undo_15 : decode cX9_undo 15 = .ok (.getfield 42, 3) := by decide +kernel
theorem dX9_undo_18 : decode cX9_undo 18 = .ok (.aload_n 0, 1) := by decide +kernel
theorem dX9_undo_19 : decode cX9_undo 19 = .ok (.getfield 35, 3) := by decide +kernel
theorem dX9_undo_22 : decode cX9_undo 22 = .ok (.aload_n 0, 1) := by decide +kernel
theorem dX9_undo_23 : decode cX9_undo 23 = .ok (.getfield 174, 3) := by decide +kernel
theorem dX9_undo_26 : decode cX9_undo 26 = .ok (.invokevirtual 209, 3) := by decide +kernel
theorem dX9_undo_29 : decode cX9_undo 29 = .ok (.putfield 174, 3) := by decide +kernel
theorem dX9_undo_32 : decode cX9_undo 32 = .ok (.aload_n 0, 1) := by decide +kernel
theorem dX9_undo_33 : decode cX9_undo 33 = .ok (.getfield 42, 3) := by decide +kernel
theorem dX9_undo_36 : decode cX9_undo 36 = .ok (.getfield 132, 3) := by decide +kernel
theorem dX9_undo_39 : decode cX9_undo 39 = .ok (.ireturn, 1) := by decide +kernel
set_option maxRecDepth 20000 in
theorem ggX9_answer_X9_isWeekday : GoodIn wsX9_answer wsX9_isWeekday := goodIn_r _ [7] (by decide +kernel) (by decide +kernel)
set_option maxRecDepth 20000 in
theorem gX9_answer_X9_isWeekday : GoodIn wsX9_answer (va_wsS RX9 213 yX9_isWeekday wsX9_isWeekday) := goodIn_app (goodIn_of _ (by decide +kernel)) ggX9_answer_X9_isWeekday
set_option maxRecDepth 20000 in
theorem ggX9_answer_X1_hasCase : GoodIn wsX9_answer wsX1_hasCase := goodIn_r _ [12, 13, 104, 105, 106, 107, 108] (by decide +kernel) (by decide +kernel)
set_option maxRecDepth 20000 in
theorem gX9_answer_X1_hasCase : GoodIn wsX9_answer (wsV RX9 216 RX1 yX1_hasCase wsX1_hasCase) := goodIn_app (goodIn_of _ (by decide +kernel)) ggX9_answer_X1_hasCase
set_option maxRecDepth 20000 in
theorem ggX9_answer_X9_hasSlip : GoodIn wsX9_answer wsX9_hasSlip := goodIn_r _ [17, 2, 1, 18, 19, 20, 21, 22, 23, 24, 25, 26, 27, 28, 29, 30, 31, 32, 33, 34, 35, 36, 37, 38, 39, 40, 41, 42, 11, 43, 44, 45, 46, 47, 48, 49, 50, 51, 13, 93, 94, 95, 96, 97, 98, 99, 100, 101, 102, 103, 109, 110, 111, 112, 104, 105, 106, 107, 108] (by decide +kernel) (by decide +kernel)
set_option maxRecDepth 20000 in
theorem gX9_answer_X9_hasSlip : GoodIn wsX9_answer (wsV RX9 167 RX9 yX9_hasSlip wsX9_hasSlip) := goodIn_app (goodIn_of _ (by decide +kernel)) ggX9_answer_X9_hasSlip
set_option maxRecDepth 20000 in
theorem ggX9_answer_X4_weekday : GoodIn wsX9_answer wsX4_weekday := goodIn_r _ [56, 57, 113, 114, 115, 116, 117, 118] (by decide +kernel) (by decide +kernel)
set_option maxRecDepth 20000 in
theorem gX9_answer_X4_weekday : GoodIn wsX9_answer (wsV RX9 182 RX4 yX4_weekday wsX4_weekday) := goodIn_app (goodIn_of _ (by decide +kernel)) ggX9_answer_X4_weekday
set_option maxRecDepth 20000 in
theorem ggX9_answer_X5_answerIn : GoodIn wsX9_answer wsX5_answerIn := goodIn_r _ [61, 62, 63, 64, 21, 65, 66, 67, 68, 69, 23, 70, 24, 25, 26, 27, 28, 29, 30, 34, 35, 36, 71, 72, 73, 37, 38, 39, 74, 75, 46, 76, 77, 6, 78, 79, 80, 81, 82, 45, 47, 83, 84, 85, 86, 87, 88, 89, 109, 110, 111, 112] (by decide +kernel) (by decide +kernel)
set_option maxRecDepth 20000 in
theorem gX9_answer_X5_answerIn : GoodIn wsX9_answer (wsV RX9 185 RX5 yX5_answerIn wsX5_answerIn) := goodIn_app (goodIn_of _ (by decide +kernel)) ggX9_answer_X5_answerIn
set_option maxRecDepth 20000 in
theorem ggX9_answer_X9_told : GoodIn wsX9_answer wsX9_told := goodIn_r _ [92] (by decide +kernel) (by decide +kernel)
set_option maxRecDepth 20000 in
theorem gX9_answer_X9_told : GoodIn wsX9_answer (va_wsS RX9 192 yX9_told wsX9_told) := goodIn_app (goodIn_of _ (by decide +kernel)) ggX9_answer_X9_told
theorem dX9_answer_0 : decode cX9_answer 0 = .ok (.iload_n 1, 1) := by decide +kernel
theorem dX9_answer_1 : decode cX9_answer 1 = .ok (.invokestatic 213, 3) := by decide +kernel
theorem dX9_answer_4 : decode cX9_answer 4 = .ok (.ifCond .eq 14, 3) := by decide +kernel
theorem dX9_answer_7 : decode cX9_answer 7 = .ok (.aload_n 0, 1) := by decide +kernel
theorem dX9_answer_8 : decode cX9_answer 8 = .ok (.getfield 28, 3) := by decide +kernel
theorem dX9_answer_11 : decode cX9_answer 11 = .ok (.iload_n 2, 1) := by decide +kernel
theorem dX9_answer_12 : decode cX9_answer 12 = .ok (.invokevirtual 216, 3) := by decide +kernel
theorem dX9_answer_15 : decode cX9_answer 15 = .ok (.ifCond .ne 6, 3) := by decide +kernel
theorem dX9_answer_18 : decode cX9_answer 18 = .ok (.bipush (-2), 2) := by decide +kernel
theorem dX9_answer_20 : decode cX9_answer 20 = .ok (.ireturn, 1) := by decide +kernel
theorem dX9_answer_21 : decode cX9_answer 21 = .ok (.aload_n 0, 1) := by decide +kernel
theorem dX9_answer_22 : decode cX9_answer 22 = .ok (.invokevirtual 167, 3) := by decide +kernel
theorem dX9_answer_25 : decode cX9_answer 25 = .ok (.ifCond .eq 6, 3) := by decide +kernel
theorem dX9_answer_28 : decode cX9_answer 28 = .ok (.bipush (-3), 2) := by decide +kernel
theorem dX9_answer_30 : decode cX9_answer 30 = .ok (.ireturn, 1) := by decide +kernel
theorem dX9_answer_31 : decode cX9_answer 31 = .ok (.aload_n 0, 1) := by decide +kernel
theorem dX9_answer_32 : decode cX9_answer 32 = .ok (.getfield 21, 3) := by decide +kernel
theorem dX9_answer_35 : decode cX9_answer 35 = .ok (.aload_n 0, 1) := by decide +kernel
theorem dX9_answer_36 : decode cX9_answer 36 = .ok (.getfield 35, 3) := by decide +kernel
theorem dX9_answer_39 : decode cX9_answer 39 = .ok (.invokevirtual 182, 3) := by decide +kernel
theorem dX9_answer_42 : decode cX9_answer 42 = .ok (.iload_n 1, 1) := by decide +kernel
theorem dX9_answer_43 : decode cX9_answer 43 = .ok (.iload_n 2, 1) := by decide +kernel
theorem dX9_answer_44 : decode cX9_answer 44 = .ok (.iconst 0, 1) := by decide +kernel
theorem dX9_answer_45 : decode cX9_answer 45 = .ok (.invokevirtual 185, 3) := by decide +kernel
theorem dX9_answer_48 : decode cX9_answer 48 = .ok (.invokestatic 192, 3) := by decide +kernel
theorem dX9_answer_51 : decode cX9_answer 51 = .ok (.ireturn, 1) := by decide +kernel
set_option maxRecDepth 20000 in
theorem ggX9_parts_X9_isAnswer : GoodIn wsX9_parts wsX9_isAnswer := goodIn_r _ [6] (by decide +kernel) (by decide +kernel)
set_option maxRecDepth 20000 in
theorem gX9_parts_X9_isAnswer : GoodIn wsX9_parts (va_wsS RX9 219 yX9_isAnswer wsX9_isAnswer) := goodIn_app (goodIn_of _ (by decide +kernel)) ggX9_parts_X9_isAnswer
set_option maxRecDepth 20000 in
theorem ggX9_parts_X9_hasSlip : GoodIn wsX9_parts wsX9_hasSlip := goodIn_r _ [10, 2, 11, 12, 13, 14, 15, 16, 17, 18, 19, 20, 21, 22, 23, 24, 25, 26, 27, 28, 29, 30, 31, 32, 33, 34, 35, 36, 37, 38, 39, 40, 41, 42, 43, 44, 45, 46, 47, 87, 88, 89, 90, 91, 92, 93, 94, 95, 96, 97, 104, 105, 106, 107, 108, 109, 110, 111, 112] (by decide +kernel) (by decide +kernel)
set_option maxRecDepth 20000 in
theorem gX9_parts_X9_hasSlip : GoodIn wsX9_parts (wsV RX9 167 RX9 yX9_hasSlip wsX9_hasSlip) := goodIn_app (goodIn_of _ (by decide +kernel)) ggX9_parts_X9_hasSlip
set_option maxRecDepth 20000 in
theorem ggX9_parts_X4_weekday : GoodIn wsX9_parts wsX4_weekday := goodIn_r _ [52, 53, 98, 99, 100, 101, 102, 103] (by decide +kernel) (by decide +kernel)
set_option maxRecDepth 20000 in
theorem gX9_parts_X4_weekday : GoodIn wsX9_parts (wsV RX9 182 RX4 yX4_weekday wsX4_weekday) := goodIn_app (goodIn_of _ (by decide +kernel)) ggX9_parts_X4_weekday
set_option maxRecDepth 20000 in
theorem ggX9_parts_X5_casesAnswered : GoodIn wsX9_parts wsX5_casesAnswered := goodIn_r _ [57, 58, 59, 60, 15, 61, 17, 62, 18, 19, 20, 21, 22, 23, 24, 28, 29, 30, 63, 64, 65, 31, 32, 33, 66, 67, 41, 68, 69, 5, 70, 71, 72, 73, 74, 40, 42, 75, 76, 77, 78, 79, 104, 105, 106, 107] (by decide +kernel) (by decide +kernel)
set_option maxRecDepth 20000 in
theorem gX9_parts_X5_casesAnswered : GoodIn wsX9_parts (wsV RX9 189 RX5 yX5_casesAnswered wsX5_casesAnswered) := goodIn_app (goodIn_of _ (by decide +kernel)) ggX9_parts_X5_casesAnswered
set_option maxRecDepth 20000 in
theorem ggX9_parts_J6_bitCount_0f7a4 : GoodIn wsX9_parts wsJ6_bitCount_0f7a4 := goodIn_r _ [83, 84, 85, 86] (by decide +kernel) (by decide +kernel)
set_option maxRecDepth 20000 in
theorem gX9_parts_J6_bitCount_0f7a4 : GoodIn wsX9_parts (va_wsS RX9 222 yJ6_bitCount_0f7a4 wsJ6_bitCount_0f7a4) := goodIn_app (goodIn_of _ (by decide +kernel)) ggX9_parts_J6_bitCount_0f7a4
theorem dX9_parts_0 : decode cX9_parts 0 = .ok (.iload_n 1, 1) := by decide +kernel
theorem dX9_parts_1 : decode cX9_parts 1 = .ok (.invokestatic 219, 3) := by decide +kernel
theorem dX9_parts_4 : decode cX9_parts 4 = .ok (.ifCond .ne 6, 3) := by decide +kernel
theorem dX9_parts_7 : decode cX9_parts 7 = .ok (.bipush (-2), 2) := by decide +kernel
theorem dX9_parts_9 : decode cX9_parts 9 = .ok (.ireturn, 1) := by decide +kernel
theorem dX9_parts_10 : decode cX9_parts 10 = .ok (.aload_n 0, 1) := by decide +kernel
theorem dX9_parts_11 : decode cX9_parts 11 = .ok (.invokevirtual 167, 3) := by decide +kernel
theorem dX9_parts_14 : decode cX9_parts 14 = .ok (.ifCond .eq 6, 3) := by decide +kernel
theorem dX9_parts_17 : decode cX9_parts 17 = .ok (.bipush (-3), 2) := by decide +kernel
theorem dX9_parts_19 : decode cX9_parts 19 = .ok (.ireturn, 1) := by decide +kernel
theorem dX9_parts_20 : decode cX9_parts 20 = .ok (.aload_n 0, 1) := by decide +kernel
theorem dX9_parts_21 : decode cX9_parts 21 = .ok (.getfield 35, 3) := by decide +kernel
theorem dX9_parts_24 : decode cX9_parts 24 = .ok (.invokevirtual 182, 3) := by decide +kernel
theorem dX9_parts_27 : decode cX9_parts 27 = .ok (.istore_n 2, 1) := by decide +kernel
theorem dX9_parts_28 : decode cX9_parts 28 = .ok (.iconst 0, 1) := by decide +kernel
theorem dX9_parts_29 : decode cX9_parts 29 = .ok (.istore_n 3, 1) := by decide +kernel
theorem dX9_parts_30 : decode cX9_parts 30 = .ok (.iconst 0, 1) := by decide +kernel
theorem dX9_parts_31 : decode cX9_parts 31 = .ok (.istore 4, 2) := by decide +kernel
theorem dX9_parts_33 : decode cX9_parts 33 = .ok (.iload 4, 2) := by decide +kernel
theorem dX9_parts_35 : decode cX9_parts 35 = .ok (.bipush 7, 2) := by decide +kernel
theorem dX9_parts_37 : decode cX9_parts 37 = .ok (.if_icmp .ge 38, 3) := by decide +kernel
theorem dX9_parts_40 : decode cX9_parts 40 = .ok (.iload_n 3, 1) := by decide +kernel
theorem dX9_parts_41 : decode cX9_parts 41 = .ok (.aload_n 0, 1) := by decide +kernel
theorem dX9_parts_42 : decode cX9_parts 42 = .ok (.getfield 35, 3) := by decide +kernel
theorem dX9_parts_45 : decode cX9_parts 45 = .ok (.getfield 113, 3) := by decide +kernel
theorem dX9_parts_48 : decode cX9_parts 48 = .ok (.iload 4, 2) := by decide +kernel
theorem dX9_parts_50 : decode cX9_parts 50 = .ok (.iaload, 1) := by decide +kernel
theorem dX9_parts_51 : decode cX9_parts 51 = .ok (.aload_n 0, 1) := by decide +kernel
theorem dX9_parts_52 : decode cX9_parts 52 = .ok (.getfield 21, 3) := by decide +kernel
theorem dX9_parts_55 : decode cX9_parts 55 = .ok (.iload_n 1, 1) := by decide +kernel
theorem dX9_parts_56 : decode cX9_parts 56 = .ok (.iload_n 2, 1) := by decide +kernel
theorem dX9_parts_57 : decode cX9_parts 57 = .ok (.iload 4, 2) := by decide +kernel
theorem dX9_parts_59 : decode cX9_parts 59 = .ok (.iconst 0, 1) := by decide +kernel
theorem dX9_parts_60 : decode cX9_parts 60 = .ok (.invokevirtual 189, 3) := by decide +kernel
theorem dX9_parts_63 : decode cX9_parts 63 = .ok (.iand, 1) := by decide +kernel
theorem dX9_parts_64 : decode cX9_parts 64 = .ok (.invokestatic 222, 3) := by decide +kernel
theorem dX9_parts_67 : decode cX9_parts 67 = .ok (.iadd, 1) := by decide +kernel
theorem dX9_parts_68 : decode cX9_parts 68 = .ok (.istore_n 3, 1) := by decide +kernel
theorem dX9_parts_69 : decode cX9_parts 69 = .ok (.iinc 4 1, 3) := by decide +kernel
theorem dX9_parts_72 : decode cX9_parts 72 = .ok (.goto (-39), 3) := by decide +kernel
theorem dX9_parts_75 : decode cX9_parts 75 = .ok (.iload_n 3, 1) := by decide +kernel
theorem dX9_parts_76 : decode cX9_parts 76 = .ok (.ireturn, 1) := by decide +kernel
set_option maxRecDepth 20000 in
theorem ggX9_simpleParts_X1_hasSimple : GoodIn wsX9_simpleParts wsX1_hasSimple := goodIn_r _ [7, 8, 9, 10, 11, 12, 13, 14, 6, 15, 16, 72, 73, 74, 75, 76] (by decide +kernel) (by decide +kernel)
set_option maxRecDepth 20000 in
theorem gX9_simpleParts_X1_hasSimple : GoodIn wsX9_simpleParts (wsV RX9 227 RX1 yX1_hasSimple wsX1_hasSimple) := goodIn_app (goodIn_of _ (by decide +kernel)) ggX9_simpleParts_X1_hasSimple
set_option maxRecDepth 20000 in
theorem ggX9_simpleParts_X9_isAnswer : GoodIn wsX9_simpleParts wsX9_isAnswer := goodIn_r _ [20] (by decide +kernel) (by decide +kernel)
set_option maxRecDepth 20000 in
theorem gX9_simpleParts_X9_isAnswer : GoodIn wsX9_simpleParts (va_wsS RX9 219 yX9_isAnswer wsX9_isAnswer) := goodIn_app (goodIn_of _ (by decide +kernel)) ggX9_simpleParts_X9_isAnswer
set_option maxRecDepth 20000 in
theorem ggX9_simpleParts_X4_weekday : GoodIn wsX9_simpleParts wsX4_weekday := goodIn_r _ [25, 26, 66, 67, 68, 69, 70, 71] (by decide +kernel) (by decide +kernel)
set_option maxRecDepth 20000 in
theorem gX9_simpleParts_X4_weekday : GoodIn wsX9_simpleParts (wsV RX9 182 RX4 yX4_weekday wsX4_weekday) := goodIn_app (goodIn_of _ (by decide +kernel)) ggX9_simpleParts_X4_weekday
set_option maxRecDepth 20000 in
theorem ggX9_simpleParts_X8_countAnswered : GoodIn wsX9_simpleParts wsX8_countAnswered := goodIn_r _ [30, 31, 32, 10, 33, 34, 35, 36, 37, 19, 38, 39, 40, 41, 42, 9, 11, 43, 44, 45, 46, 47, 48, 49, 50, 51, 52, 53, 54] (by decide +kernel) (by decide +kernel)
set_option maxRecDepth 20000 in
theorem gX9_simpleParts_X8_countAnswered : GoodIn wsX9_simpleParts (va_wsS RX9 230 yX8_countAnswered wsX8_countAnswered) := goodIn_app (goodIn_of _ (by decide +kernel)) ggX9_simpleParts_X8_countAnswered
theorem dX9_simpleParts_0 : decode cX9_simpleParts 0 = .ok (.aload_n 0, 1) := by decide +kernel
theorem dX9_simpleParts_1 : decode cX9_simpleParts 1 = .ok (.getfield 28, 3) := by decide +kernel
theorem dX9_simpleParts_4 : decode cX9_simpleParts 4 = .ok (.iload_n 1, 1) := by decide +kernel
theorem dX9_simpleParts_5 : decode cX9_simpleParts 5 = .ok (.invokevirtual 227, 3) := by decide +kernel
theorem dX9_simpleParts_8 : decode cX9_simpleParts 8 = .ok (.ifCond .eq 10, 3) := by decide +kernel
theorem dX9_simpleParts_11 : decode cX9_simpleParts 11 = .ok (.iload_n 2, 1) := by decide +kernel
theorem dX9_simpleParts_12 : decode cX9_simpleParts 12 = .ok (.invokestatic 219, 3) := by decide +kernel
theorem dX9_simpleParts_15 : decode cX9_simpleParts 15 = .ok (.ifCond .ne 6, 3) := by decide +kernel
theorem dX9_simpleParts_18 : decode cX9_simpleParts 18 = .ok (.bipush (-2), 2) := by decide +kernel
theorem dX9_simpleParts_20 : decode cX9_simpleParts 20 = .ok (.ireturn, 1) := by decide +kernel
theorem dX9_simpleParts_21 : decode cX9_simpleParts 21 = .ok (.aload_n 0, 1) := by decide +kernel
theorem dX9_simpleParts_22 : decode cX9_simpleParts 22 = .ok (.getfield 35, 3) := by decide +kernel
theorem dX9_simpleParts_25 : decode cX9_simpleParts 25 = .ok (.getfield 113, 3) := by decide +kernel
theorem dX9_simpleParts_28 : decode cX9_simpleParts 28 = .ok (.iload_n 1, 1) := by decide +kernel
theorem dX9_simpleParts_29 : decode cX9_simpleParts 29 = .ok (.iload_n 2, 1) := by decide +kernel
theorem dX9_simpleParts_30 : decode cX9_simpleParts 30 = .ok (.aload_n 0, 1) := by decide +kernel
theorem dX9_simpleParts_31 : decode cX9_simpleParts 31 = .ok (.getfield 35, 3) := by decide +kernel
theorem dX9_simpleParts_34 : decode cX9_simpleParts 34 = .ok (.invokevirtual 182, 3) := by decide +kernel
theorem dX9_simpleParts_37 : decode cX9_simpleParts 37 = .ok (.invokestatic 230, 3) := by decide +kernel
theorem dX9_simpleParts_40 : decode cX9_simpleParts 40 = .ok (.ireturn, 1) := by decide +kernel
set_option maxRecDepth 20000 in
theorem ggX9_toAsk_X1_hasSimple : GoodIn wsX9_toAsk wsX1_hasSimple := goodIn_r _ [6, 7, 8, 9, 10, 11, 12, 13, 5, 14, 15, 71, 72, 73, 74, 75] (by decide +kernel) (by decide +kernel)
set_option maxRecDepth 20000 in
theorem gX9_toAsk_X1_hasSimple : GoodIn wsX9_toAsk (wsV RX9 227 RX1 yX1_hasSimple wsX1_hasSimple) := goodIn_app (goodIn_of _ (by decide +kernel)) ggX9_toAsk_X1_hasSimple
set_option maxRecDepth 20000 in
theorem ggX9_toAsk_X9_leftAtWorst : GoodIn wsX9_toAsk wsX9_leftAtWorst := goodIn_r _ [20, 21, 22, 23, 24, 25, 26, 27, 28, 29, 30, 31, 32, 33, 34, 35, 36, 37, 9, 38, 39, 40, 41, 42, 19, 43, 44, 45, 46, 47, 8, 10, 48, 49, 50, 51, 52, 53, 54, 55, 56, 57, 58, 59, 60, 61, 62, 63, 64, 65, 66, 67, 68, 69, 70, 76, 77, 78, 79, 80, 81] (by decide +kernel) (by decide +kernel)
set_option maxRecDepth 20000 in
theorem gX9_toAsk_X9_leftAtWorst : GoodIn wsX9_toAsk (wsV RX9 236 RX9 yX9_leftAtWorst wsX9_leftAtWorst) := goodIn_app (goodIn_of _ (by decide +kernel)) ggX9_toAsk_X9_leftAtWorst
theorem dX9_toAsk_0 : decode cX9_toAsk 0 = .ok (.bipush (-9), 2) := by decide +kernel
theorem dX9_toAsk_2 : decode cX9_toAsk 2 = .ok (.istore_n 1, 1) := by decide +kernel
theorem dX9_toAsk_3 : decode cX9_toAsk 3 = .ok (.iconst 0, 1) := by decide +kernel
theorem dX9_toAsk_4 : decode cX9_toAsk 4 = .ok (.istore_n 2, 1) := by decide +kernel
theorem dX9_toAsk_5 : decode cX9_toAsk 5 = .ok (.iconst 0, 1) := by decide +kernel
theorem dX9_toAsk_6 : decode cX9_toAsk 6 = .ok (.istore_n 3, 1) := by decide +kernel
theorem dX9_toAsk_7 : decode cX9_toAsk 7 = .ok (.iload_n 3, 1) := by decide +kernel
theorem dX9_toAsk_8 : decode cX9_toAsk 8 = .ok (.bipush 19, 2) := by decide +kernel
theorem dX9_toAsk_10 : decode cX9_toAsk 10 = .ok (.if_icmp .ge 44, 3) := by decide +kernel
theorem dX9_toAsk_13 : decode cX9_toAsk 13 = .ok (.aload_n 0, 1) := by decide +kernel
theorem dX9_toAsk_14 : decode cX9_toAsk 14 = .ok (.getfield 28, 3) := by decide +kernel
theorem dX9_toAsk_17 : decode cX9_toAsk 17 = .ok (.iload_n 3, 1) := by decide +kernel
theorem dX9_toAsk_18 : decode cX9_toAsk 18 = .ok (.invokevirtual 227, 3) := by decide +kernel
theorem dX9_toAsk_21 : decode cX9_toAsk 21 = .ok (.ifCond .eq 27, 3) := by decide +kernel
theorem dX9_toAsk_24 : decode cX9_toAsk 24 = .ok (.aload_n 0, 1) := by decide +kernel
theorem dX9_toAsk_25 : decode cX9_toAsk 25 = .ok (.iload_n 3, 1) := by decide +kernel
theorem dX9_toAsk_26 : decode cX9_toAsk 26 = .ok (.invokevirtual 236, 3) := by decide +kernel
theorem dX9_toAsk_29 : decode cX9_toAsk 29 = .ok (.istore 4, 2) := by decide +kernel
theorem dX9_toAsk_31 : decode cX9_toAsk 31 = .ok (.iload_n 1, 1) := by decide +kernel
theorem dX9_toAsk_32 : decode cX9_toAsk 32 = .ok (.bipush (-9), 2) := by decide +kernel
theorem dX9_toAsk_34 : decode cX9_toAsk 34 = .ok (.if_icmp .eq 9, 3) := by decide +kernel
theorem dX9_toAsk_37 : decode cX9_toAsk 37 = .ok (.iload 4, 2) := by decide +kernel
theorem dX9_toAsk_39 : decode cX9_toAsk 39 = .ok (.iload_n 2, 1) := by decide +kernel
theorem dX9_toAsk_40 : decode cX9_toAsk 40 = .ok (.if_icmp .ge 8, 3) := by decide +kernel
theorem dX9_toAsk_43 : decode cX9_toAsk 43 = .ok (.iload 4, 2) := by decide +kernel
theorem dX9_toAsk_45 : decode cX9_toAsk 45 = .ok (.istore_n 2, 1) := by decide +kernel
theorem dX9_toAsk_46 : decode cX9_toAsk 46 = .ok (.iload_n 3, 1) := by decide +kernel
theorem dX9_toAsk_47 : decode cX9_toAsk 47 = .ok (.istore_n 1, 1) := by decide +kernel
theorem dX9_toAsk_48 : decode cX9_toAsk 48 = .ok (.iinc 3 1, 3) := by decide +kernel
theorem dX9_toAsk_51 : decode cX9_toAsk 51 = .ok (.goto (-44), 3) := by decide +kernel
theorem dX9_toAsk_54 : decode cX9_toAsk 54 = .ok (.iload_n 1, 1) := by decide +kernel
theorem dX9_toAsk_55 : decode cX9_toAsk 55 = .ok (.ireturn, 1) := by decide +kernel
set_option maxRecDepth 20000 in
theorem ggX9_leftAtWorst_X4_weekday : GoodIn wsX9_leftAtWorst wsX4_weekday := goodIn_r _ [10, 11, 55, 56, 57, 58, 59, 60] (by decide +kernel) (by decide +kernel)
set_option maxRecDepth 20000 in
theorem gX9_leftAtWorst_X4_weekday : GoodIn wsX9_leftAtWorst (wsV RX9 182 RX4 yX4_weekday wsX4_weekday) := goodIn_app (goodIn_of _ (by decide +kernel)) ggX9_leftAtWorst_X4_weekday
set_option maxRecDepth 20000 in
theorem ggX9_leftAtWorst_X8_countAnswered : GoodIn wsX9_leftAtWorst wsX8_countAnswered := goodIn_r _ [15, 16, 17, 18, 19, 20, 21, 22, 23, 24, 25, 26, 27, 28, 29, 30, 31, 32, 33, 34, 35, 36, 37, 38, 39, 40, 41, 42, 43] (by decide +kernel) (by decide +kernel)
set_option maxRecDepth 20000 in
theorem gX9_leftAtWorst_X8_countAnswered : GoodIn wsX9_leftAtWorst (va_wsS RX9 230 yX8_countAnswered wsX8_countAnswered) := goodIn_app (goodIn_of _ (by decide +kernel)) ggX9_leftAtWorst_X8_countAnswered
theorem dX9_leftAtWorst_0 : decode cX9_leftAtWorst 0 = .ok (.iconst 0, 1) := by decide +kernel
theorem dX9_leftAtWorst_1 : decode cX9_leftAtWorst 1 = .ok (.istore_n 2, 1) := by decide +kernel
theorem dX9_leftAtWorst_2 : decode cX9_leftAtWorst 2 = .ok (.iconst 0, 1) := by decide +kernel
theorem dX9_leftAtWorst_3 : decode cX9_leftAtWorst 3 = .ok (.istore_n 3, 1) := by decide +kernel
theorem dX9_leftAtWorst_4 : decode cX9_leftAtWorst 4 = .ok (.iload_n 3, 1) := by decide +kernel
theorem dX9_leftAtWorst_5 : decode cX9_leftAtWorst 5 = .ok (.iconst 3, 1) := by decide +kernel
theorem dX9_leftAtWorst_6 : decode cX9_leftAtWorst 6 = .ok (.if_icmp .ge 33, 3) := by decide +kernel
theorem dX9_leftAtWorst_9 : decode cX9_leftAtWorst 9 = .ok (.iload_n 2, 1) := by decide +kernel
theorem dX9_leftAtWorst_10 : decode cX9_leftAtWorst 10 = .ok (.aload_n 0, 1) := by decide +kernel
theorem dX9_leftAtWorst_11 : decode cX9_leftAtWorst 11 = .ok (.getfield 35, 3) := by decide +kernel
theorem dX9_leftAtWorst_14 : decode cX9_leftAtWorst 14 = .ok (.getfield 113, 3) := by decide +kernel
theorem dX9_leftAtWorst_17 : decode cX9_leftAtWorst 17 = .ok (.iload_n 1, 1) := by decide +kernel
theorem dX9_leftAtWorst_18 : decode cX9_leftAtWorst 18 = .ok (.iload_n 3, 1) := by decide +kernel
theorem dX9_leftAtWorst_19 : decode cX9_leftAtWorst 19 = .ok (.aload_n 0, 1) := by decide +kernel
theorem dX9_leftAtWorst_20 : decode cX9_leftAtWorst 20 = .ok (.getfield 35, 3) := by decide +kernel
theorem dX9_leftAtWorst_23 : decode cX9_leftAtWorst 23 = .ok (.invokevirtual 182, 3) := by decide +kernel
theorem dX9_leftAtWorst_26 : decode cX9_leftAtWorst 26 = .ok (.invokestatic 230, 3) := by decide +kernel
theorem dX9_leftAtWorst_29 : decode cX9_leftAtWorst 29 = .ok (.invokestatic 239, 3) := by decide +kernel
theorem dX9_leftAtWorst_32 : decode cX9_leftAtWorst 32 = .ok (.istore_n 2, 1) := by decide +kernel
theorem dX9_leftAtWorst_33 : decode cX9_leftAtWorst 33 = .ok (.iinc 3 1, 3) := by decide +kernel
theorem dX9_leftAtWorst_36 : decode cX9_leftAtWorst 36 = .ok (.goto (-32), 3) := by decide +kernel
theorem dX9_leftAtWorst_39 : decode cX9_leftAtWorst 39 = .ok (.iload_n 2, 1) := by decide +kernel
theorem dX9_leftAtWorst_40 : decode cX9_leftAtWorst 40 = .ok (.ireturn, 1) := by decide +kernel
set_option maxRecDepth 20000 in
theorem ggX9_dumb_X1_hasSimple : GoodIn wsX9_dumb wsX1_hasSimple := goodIn_r _ [7, 8, 9, 10, 11, 12, 13, 14, 6, 15, 16, 69, 70, 71, 72, 73] (by decide +kernel) (by decide +kernel)
set_option maxRecDepth 20000 in
theorem gX9_dumb_X1_hasSimple : GoodIn wsX9_dumb (wsV RX9 227 RX1 yX1_hasSimple wsX1_hasSimple) := goodIn_app (goodIn_of _ (by decide +kernel)) ggX9_dumb_X1_hasSimple
set_option maxRecDepth 20000 in
theorem ggX9_dumb_X4_weekday : GoodIn wsX9_dumb wsX4_weekday := goodIn_r _ [21, 22, 63, 64, 65, 66, 67, 68] (by decide +kernel) (by decide +kernel)
set_option maxRecDepth 20000 in
theorem gX9_dumb_X4_weekday : GoodIn wsX9_dumb (wsV RX9 182 RX4 yX4_weekday wsX4_weekday) := goodIn_app (goodIn_of _ (by decide +kernel)) ggX9_dumb_X4_weekday
set_option maxRecDepth 20000 in
theorem ggX9_dumb_X8_countAnswered : GoodIn wsX9_dumb wsX8_countAnswered := goodIn_r _ [26, 27, 28, 10, 29, 30, 31, 32, 33, 34, 35, 36, 37, 38, 39, 9, 11, 40, 41, 42, 43, 44, 45, 46, 47, 48, 49, 50, 51] (by decide +kernel) (by decide +kernel)
set_option maxRecDepth 20000 in
theorem gX9_dumb_X8_countAnswered : GoodIn wsX9_dumb (va_wsS RX9 230 yX8_countAnswered wsX8_countAnswered) := goodIn_app (goodIn_of _ (by decide +kernel)) ggX9_dumb_X8_countAnswered
theorem dX9_dumb_0 : decode cX9_dumb 0 = .ok (.iconst 0, 1) := by decide +kernel
theorem dX9_dumb_1 : decode cX9_dumb 1 = .ok (.istore_n 1, 1) := by decide +kernel
theorem dX9_dumb_2 : decode cX9_dumb 2 = .ok (.iconst 0, 1) := by decide +kernel
theorem dX9_dumb_3 : decode cX9_dumb 3 = .ok (.istore_n 2, 1) := by decide +kernel
theorem dX9_dumb_4 : decode cX9_dumb 4 = .ok (.iload_n 2, 1) := by decide +kernel
theorem dX9_dumb_5 : decode cX9_dumb 5 = .ok (.bipush 19, 2) := by decide +kernel
theorem dX9_dumb_7 : decode cX9_dumb 7 = .ok (.if_icmp .ge 48, 3) := by decide +kernel
theorem dX9_dumb_10 : decode cX9_dumb 10 = .ok (.aload_n 0, 1) := by decide +kernel
theorem dX9_dumb_11 : decode cX9_dumb 11 = .ok (.getfield 28, 3) := by decide +kernel
theorem dX9_dumb_14 : decode cX9_dumb 14 = .ok (.iload_n 2, 1) := by decide +kernel
theorem dX9_dumb_15 : decode cX9_dumb 15 = .ok (.invokevirtual 227, 3) := by decide +kernel
theorem dX9_dumb_18 : decode cX9_dumb 18 = .ok (.ifCond .eq 31, 3) := by decide +kernel
theorem dX9_dumb_21 : decode cX9_dumb 21 = .ok (.aload_n 0, 1) := by decide +kernel
theorem dX9_dumb_22 : decode cX9_dumb 22 = .ok (.getfield 35, 3) := by decide +kernel
theorem dX9_dumb_25 : decode cX9_dumb 25 = .ok (.getfield 113, 3) := by decide +kernel
theorem dX9_dumb_28 : decode cX9_dumb 28 = .ok (.iload_n 2, 1) := by decide +kernel
theorem dX9_dumb_29 : decode cX9_dumb 29 = .ok (.iconst 2, 1) := by decide +kernel
theorem dX9_dumb_30 : decode cX9_dumb 30 = .ok (.aload_n 0, 1) := by decide +kernel
theorem dX9_dumb_31 : decode cX9_dumb 31 = .ok (.getfield 35, 3) := by decide +kernel
theorem dX9_dumb_34 : decode cX9_dumb 34 = .ok (.invokevirtual 182, 3) := by decide +kernel
theorem dX9_dumb_37 : decode cX9_dumb 37 = .ok (.invokestatic 230, 3) := by decide +kernel
theorem dX9_dumb_40 : decode cX9_dumb 40 = .ok (.ifCond .le 9, 3) := by decide +kernel
theorem dX9_dumb_43 : decode cX9_dumb 43 = .ok (.iload_n 1, 1) := by decide +kernel
theorem dX9_dumb_44 : decode cX9_dumb 44 = .ok (.iconst 1, 1) := by decide +kernel
theorem dX9_dumb_45 : decode cX9_dumb 45 = .ok (.iload_n 2, 1) := by decide +kernel
theorem dX9_dumb_46 : decode cX9_dumb 46 = .ok (.ishl, 1) := by decide +kernel
theorem dX9_dumb_47 : decode cX9_dumb 47 = .ok (.ior, 1) := by decide +kernel
theorem dX9_dumb_48 : decode cX9_dumb 48 = .ok (.istore_n 1, 1) := by decide +kernel
theorem dX9_dumb_49 : decode cX9_dumb 49 = .ok (.iinc 2 1, 3) := by decide +kernel
theorem dX9_dumb_52 : decode cX9_dumb 52 = .ok (.goto (-48), 3) := by decide +kernel
theorem dX9_dumb_55 : decode cX9_dumb 55 = .ok (.iload_n 1, 1) := by decide +kernel
theorem dX9_dumb_56 : decode cX9_dumb 56 = .ok (.ireturn, 1) := by decide +kernel
set_option maxRecDepth 20000 in
theorem ggX9_tells_X1_hasFact : GoodIn wsX9_tells wsX1_hasFact := goodIn_r _ [8, 9, 99, 100, 101, 102, 103] (by decide +kernel) (by decide +kernel)
set_option maxRecDepth 20000 in
theorem gX9_tells_X1_hasFact : GoodIn wsX9_tells (wsV RX9 144 RX1 yX1_hasFact wsX1_hasFact) := goodIn_app (goodIn_of _ (by decide +kernel)) ggX9_tells_X1_hasFact
set_option maxRecDepth 20000 in
theorem ggX9_tells_X2_firstToAsk : GoodIn wsX9_tells wsX2_firstToAsk := goodIn_r _ [14, 15, 16, 17, 18, 19, 20, 21, 22, 13, 23, 24, 25, 26, 7, 27, 28, 29, 30, 31, 32, 5, 6, 8, 9, 33, 34, 35, 36, 37, 38, 39, 40, 41, 42, 43, 44, 45, 46, 47, 48, 49, 50, 51, 52, 53, 54, 55, 56, 57, 58, 59, 60, 61, 62, 63, 64, 65, 66, 67, 68, 69, 70, 71, 72, 73, 74, 75, 76, 77, 78, 79, 80, 81, 82, 83, 84, 85, 86, 87, 104, 105, 106, 107, 108, 109, 110, 111, 99, 100, 101, 102, 103] (by decide +kernel) (by decide +kernel)
set_option maxRecDepth 20000 in
theorem gX9_tells_X2_firstToAsk : GoodIn wsX9_tells (wsV RX9 245 RX2 yX2_firstToAsk wsX2_firstToAsk) := goodIn_app (goodIn_of _ (by decide +kernel)) ggX9_tells_X2_firstToAsk
theorem dX9_tells_0 : decode cX9_tells 0 = .ok (.iload_n 2, 1) := by decide +kernel
theorem dX9_tells_1 : decode cX9_tells 1 = .ok (.iconst 5, 1) := by decide +kernel
theorem dX9_tells_2 : decode cX9_tells 2 = .ok (.if_icmp .eq 14, 3) := by decide +kernel
theorem dX9_tells_5 : decode cX9_tells 5 = .ok (.aload_n 0, 1) := by decide +kernel
theorem dX9_tells_6 : decode cX9_tells 6 = .ok (.getfield 28, 3) := by decide +kernel
theorem dX9_tells_9 : decode cX9_tells 9 = .ok (.iload_n 2, 1) := by decide +kernel
theorem dX9_tells_10 : decode cX9_tells 10 = .ok (.invokevirtual 144, 3) := by decide +kernel
theorem dX9_tells_13 : decode cX9_tells 13 = .ok (.ifCond .eq 7, 3) := by decide +kernel
theorem dX9_tells_16 : decode cX9_tells 16 = .ok (.iconst 1, 1) := by decide +kernel
theorem dX9_tells_17 : decode cX9_tells 17 = .ok (.goto 4, 3) := by decide +kernel
theorem dX9_tells_20 : decode cX9_tells 20 = .ok (.iconst 0, 1) := by decide +kernel
theorem dX9_tells_21 : decode cX9_tells 21 = .ok (.istore 4, 2) := by decide +kernel
theorem dX9_tells_23 : decode cX9_tells 23 = .ok (.iload_n 1, 1) := by decide +kernel
theorem dX9_tells_24 : decode cX9_tells 24 = .ok (.iconst 1, 1) := by decide +kernel
theorem dX9_tells_25 : decode cX9_tells 25 = .ok (.if_icmp .lt 22, 3) := by decide +kernel
theorem dX9_tells_28 : decode cX9_tells 28 = .ok (.iload_n 1, 1) := by decide +kernel
theorem dX9_tells_29 : decode cX9_tells 29 = .ok (.iconst 3, 1) := by decide +kernel
theorem dX9_tells_30 : decode cX9_tells 30 = .ok (.if_icmp .gt 17, 3) := by decide +kernel
theorem dX9_tells_33 : decode cX9_tells 33 = .ok (.iload 4, 2) := by decide +kernel
theorem dX9_tells_35 : decode cX9_tells 35 = .ok (.ifCond .eq 12, 3) := by decide +kernel
theorem dX9_tells_38 : decode cX9_tells 38 = .ok (.iload_n 3, 1) := by decide +kernel
theorem dX9_tells_39 : decode cX9_tells 39 = .ok (.ifCond .lt 8, 3) := by decide +kernel
theorem dX9_tells_42 : decode cX9_tells 42 = .ok (.iload_n 3, 1) := by decide +kernel
theorem dX9_tells_43 : decode cX9_tells 43 = .ok (.iconst 1, 1) := by decide +kernel
theorem dX9_tells_44 : decode cX9_tells 44 = .ok (.if_icmp .le 6, 3) := by decide +kernel
theorem dX9_tells_47 : decode cX9_tells 47 = .ok (.bipush (-2), 2) := by decide +kernel
theorem dX9_tells_49 : decode cX9_tells 49 = .ok (.ireturn, 1) := by decide +kernel
theorem dX9_tells_50 : decode cX9_tells 50 = .ok (.aload_n 0, 1) := by decide +kernel
theorem dX9_tells_51 : decode cX9_tells 51 = .ok (.getfield 56, 3) := by decide +kernel
theorem dX9_tells_54 : decode cX9_tells 54 = .ok (.aload_n 0, 1) := by decide +kernel
theorem dX9_tells_55 : decode cX9_tells 55 = .ok (.getfield 35, 3) := by decide +kernel
theorem dX9_tells_58 : decode cX9_tells 58 = .ok (.aload_n 0, 1) := by decide +kernel
theorem dX9_tells_59 : decode cX9_tells 59 = .ok (.getfield 28, 3) := by decide +kernel
theorem dX9_tells_62 : decode cX9_tells 62 = .ok (.iload_n 1, 1) := by decide +kernel
theorem dX9_tells_63 : decode cX9_tells 63 = .ok (.iload_n 2, 1) := by decide +kernel
theorem dX9_tells_64 : decode cX9_tells 64 = .ok (.invokevirtual 245, 3) := by decide +kernel
theorem dX9_tells_67 : decode cX9_tells 67 = .ok (.istore 5, 2) := by decide +kernel
theorem dX9_tells_69 : decode cX9_tells 69 = .ok (.iload_n 3, 1) := by decide +kernel
theorem dX9_tells_70 : decode cX9_tells 70 = .ok (.iconst 1, 1) := by decide +kernel
theorem dX9_tells_71 : decode cX9_tells 71 = .ok (.if_icmp .ne 6, 3) := by decide +kernel
theorem dX9_tells_74 : decode cX9_tells 74 = .ok (.iload 5, 2) := by decide +kernel
theorem dX9_tells_76 : decode cX9_tells 76 = .ok (.ireturn, 1) := by decide +kernel
theorem dX9_tells_77 : decode cX9_tells 77 = .ok (.iload 5, 2) := by decide +kernel
theorem dX9_tells_79 : decode cX9_tells 79 = .ok (.bipush (-9), 2) := by decide +kernel
theorem dX9_tells_81 : decode cX9_tells 81 = .ok (.if_icmp .ne 7, 3) := by decide +kernel
theorem dX9_tells_84 : decode cX9_tells 84 = .ok (.iconst 0, 1) := by decide +kernel
theorem dX9_tells_85 : decode cX9_tells 85 = .ok (.goto 4, 3) := by decide +kernel
theorem dX9_tells_88 : decode cX9_tells 88 = .ok (.iconst 1, 1) := by decide +kernel
theorem dX9_tells_89 : decode cX9_tells 89 = .ok (.ireturn, 1) := by decide +kernel
set_option maxRecDepth 20000 in
theorem ggX9_choice_X2_readRow : GoodIn wsX9_choice wsX2_readRow := goodIn_r _ [8, 9, 10, 11, 12, 13, 14, 15, 16, 17, 18, 19, 20, 21, 22, 23, 24, 92, 93, 87, 88, 89, 90, 91] (by decide +kernel) (by decide +kernel)
set_option maxRecDepth 20000 in
theorem gX9_choice_X2_readRow : GoodIn wsX9_choice (wsV RX9 249 RX2 yX2_readRow wsX2_readRow) := goodIn_app (goodIn_of _ (by decide +kernel)) ggX9_choice_X2_readRow
set_option maxRecDepth 20000 in
theorem ggX9_choice_X2_leftBehindRow : GoodIn wsX9_choice wsX2_leftBehindRow := goodIn_r _ [28, 29, 30, 31, 32, 33, 10, 34, 35, 18, 36, 37, 38, 39, 40, 41, 42, 43, 44, 45, 46, 47, 48, 49, 17, 19, 50, 51, 52, 53, 54, 55, 56, 57, 58, 59, 60, 61, 62, 63, 64, 65, 66, 67, 68, 69, 70, 71, 72, 73, 74, 75, 92, 93, 94, 95, 96, 97, 98, 99] (by decide +kernel) (by decide +kernel)
set_option maxRecDepth 20000 in
theorem gX9_choice_X2_leftBehindRow : GoodIn wsX9_choice (wsV RX9 253 RX2 yX2_leftBehindRow wsX2_leftBehindRow) := goodIn_app (goodIn_of _ (by decide +kernel)) ggX9_choice_X2_leftBehindRow
theorem dX9_choice_0 : decode cX9_choice 0 = .ok (.aload_n 0, 1) := by decide +kernel
theorem dX9_choice_1 : decode cX9_choice 1 = .ok (.getfield 56, 3) := by decide +kernel
theorem dX9_choice_4 : decode cX9_choice 4 = .ok (.aload_n 0, 1) := by decide +kernel
theorem dX9_choice_5 : decode cX9_choice 5 = .ok (.getfield 28, 3) := by decide +kernel
theorem dX9_choice_8 : decode cX9_choice 8 = .ok (.iload_n 1, 1) := by decide +kernel
theorem dX9_choice_9 : decode cX9_choice 9 = .ok (.lload_n 2, 1) := by decide +kernel
theorem dX9_choice_10 : decode cX9_choice 10 = .ok (.invokevirtual 249, 3) := by decide +kernel
theorem dX9_choice_13 : decode cX9_choice 13 = .ok (.ifCond .eq 14, 3) := by decide +kernel
theorem dX9_choice_16 : decode cX9_choice 16 = .ok (.iload 4, 2) := by decide +kernel
theorem dX9_choice_18 : decode cX9_choice 18 = .ok (.ifCond .lt 9, 3) := by decide +kernel
theorem dX9_choice_21 : decode cX9_choice 21 = .ok (.iload 4, 2) := by decide +kernel
theorem dX9_choice_23 : decode cX9_choice 23 = .ok (.iconst 1, 1) := by decide +kernel
theorem dX9_choice_24 : decode cX9_choice 24 = .ok (.if_icmp .le 6, 3) := by decide +kernel
theorem dX9_choice_27 : decode cX9_choice 27 = .ok (.bipush (-2), 2) := by decide +kernel
theorem dX9_choice_29 : decode cX9_choice 29 = .ok (.ireturn, 1) := by decide +kernel
theorem dX9_choice_30 : decode cX9_choice 30 = .ok (.iconst 0, 1) := by decide +kernel
theorem dX9_choice_31 : decode cX9_choice 31 = .ok (.istore 5, 2) := by decide +kernel
theorem dX9_choice_33 : decode cX9_choice 33 = .ok (.iconst (-1), 1) := by decide +kernel
theorem dX9_choice_34 : decode cX9_choice 34 = .ok (.istore 6, 2) := by decide +kernel
theorem dX9_choice_36 : decode cX9_choice 36 = .ok (.iconst 0, 1) := by decide +kernel
theorem dX9_choice_37 : decode cX9_choice 37 = .ok (.istore 7, 2) := by decide +kernel
theorem dX9_choice_39 : decode cX9_choice 39 = .ok (.iload 7, 2) := by decide +kernel
theorem dX9_choice_41 : decode cX9_choice 41 = .ok (.bipush 7, 2) := by decide +kernel
theorem dX9_choice_43 : decode cX9_choice 43 = .ok (.if_icmp .ge 47, 3) := by decide +kernel
theorem dX9_choice_46 : decode cX9_choice 46 = .ok (.aload_n 0, 1) := by decide +kernel
theorem dX9_choice_47 : decode cX9_choice 47 = .ok (.getfield 56, 3) := by decide +kernel
theorem dX9_choice_50 : decode cX9_choice 50 = .ok (.aload_n 0, 1) := by decide +kernel
theorem dX9_choice_51 : decode cX9_choice 51 = .ok (.getfield 35, 3) := by decide +kernel
theorem dX9_choice_54 : decode cX9_choice 54 = .ok (.iload_n 1, 1) := by decide +kernel
theorem dX9_choice_55 : decode cX9_choice 55 = .ok (.iload 7, 2) := by decide +kernel
theorem dX9_choice_57 : decode cX9_choice 57 = .ok (.aload_n 0, 1) := by decide +kernel
theorem dX9_choice_58 : decode cX9_choice 58 = .ok (.getfield 28, 3) := by decide +kernel
theorem dX9_choice_61 : decode cX9_choice 61 = .ok (.getfield 148, 3) := by decide +kernel
theorem dX9_choice_64 : decode cX9_choice 64 = .ok (.invokevirtual 253, 3) := by decide +kernel
theorem dX9_choice_67 : decode cX9_choice 67 = .ok (.istore 8, 2) := by decide +kernel
theorem dX9_choice_69 : decode cX9_choice 69 = .ok (.iload 8, 2) := by decide +kernel
theorem dX9_choice_71 : decode cX9_choice 71 = .ok (.iload 6, 2) := by decide +kernel
theorem dX9_choice_73 : decode cX9_choice 73 = .ok (.if_icmp .le 11, 3) := by decide +kernel
theorem dX9_choice_76 : decode cX9_choice 76 = .ok (.iload 8, 2) := by decide +kernel
theorem dX9_choice_78 : decode cX9_choice 78 = .ok (.istore 6, 2) := by decide +kernel
theorem dX9_choice_80 : decode cX9_choice 80 = .ok (.iload 7, 2) := by decide +kernel
theorem dX9_choice_82 : decode cX9_choice 82 = .ok (.istore 5, 2) := by decide +kernel
theorem dX9_choice_84 : decode cX9_choice 84 = .ok (.iinc 7 1, 3) := by decide +kernel
theorem dX9_choice_87 : decode cX9_choice 87 = .ok (.goto (-48), 3) := by decide +kernel
theorem dX9_choice_90 : decode cX9_choice 90 = .ok (.iload 4, 2) := by decide +kernel
theorem dX9_choice_92 : decode cX9_choice 92 = .ok (.ifCond .ne 8, 3) := by decide +kernel
theorem dX9_choice_95 : decode cX9_choice 95 = .ok (.iload 5, 2) := by decide +kernel
theorem dX9_choice_97 : decode cX9_choice 97 = .ok (.goto 5, 3) := by decide +kernel
theorem dX9_choice_100 : decode cX9_choice 100 = .ok (.iload 6, 2) := by decide +kernel
theorem dX9_choice_102 : decode cX9_choice 102 = .ok (.ireturn, 1) := by decide +kernel
set_option maxRecDepth 20000 in
theorem ggX9_both_X9_hasSlip : GoodIn wsX9_both wsX9_hasSlip := goodIn_r _ [5, 6, 7, 8, 9, 10, 11, 12, 13, 14, 15, 16, 17, 18, 19, 20, 21, 22, 23, 24, 25, 26, 27, 28, 29, 30, 31, 32, 33, 34, 35, 36, 37, 38, 39, 40, 41, 42, 43, 99, 100, 101, 102, 103, 104, 105, 106, 107, 108, 109, 110, 111, 112, 113, 114, 115, 116, 117, 118] (by decide +kernel) (by decide +kernel)
set_option maxRecDepth 20000 in
theorem gX9_both_X9_hasSlip : GoodIn wsX9_both (wsV RX9 167 RX9 yX9_hasSlip wsX9_hasSlip) := goodIn_app (goodIn_of _ (by decide +kernel)) ggX9_both_X9_hasSlip
set_option maxRecDepth 20000 in
theorem ggX9_both_X9_knownByBoth : GoodIn wsX9_both wsX9_knownByBoth := goodIn_r _ [47, 48, 6, 7, 49, 50, 51, 52, 53, 54, 55, 56, 57, 11, 58, 59, 60, 61, 62, 63, 64, 65, 66, 13, 67, 14, 15, 16, 17, 18, 19, 20, 24, 25, 26, 68, 69, 70, 27, 28, 29, 71, 72, 37, 73, 74, 4, 75, 76, 77, 78, 79, 36, 38, 80, 81, 82, 83, 84, 85, 86, 87, 88, 89, 90, 91, 92, 93, 94, 99, 100, 101, 102, 103, 104, 105, 106, 107, 108, 109, 119, 120, 121, 122, 123, 124, 114, 115, 116, 117, 118, 110, 111, 112, 113] (by decide +kernel) (by decide +kernel)
set_option maxRecDepth 20000 in
theorem gX9_both_X9_knownByBoth : GoodIn wsX9_both (wsV RX9 257 RX9 yX9_knownByBoth wsX9_knownByBoth) := goodIn_app (goodIn_of _ (by decide +kernel)) ggX9_both_X9_knownByBoth
set_option maxRecDepth 20000 in
theorem ggX9_both_X9_alikeByBoth : GoodIn wsX9_both wsX9_alikeByBoth := goodIn_r _ [98, 48, 6, 49, 50, 51, 52, 53, 54, 87, 60, 61, 11, 62, 63, 64, 65, 66, 13, 67, 14, 15, 16, 17, 18, 19, 20, 24, 25, 26, 68, 69, 70, 27, 28, 29, 71, 72, 37, 73, 74, 4, 75, 76, 77, 78, 79, 36, 38, 80, 81, 82, 83, 84, 88, 89, 90, 91, 92, 93, 94, 99, 100, 101, 102, 103, 104, 105, 106, 107, 108, 109, 119, 120, 121, 122, 123, 124, 110, 111, 112, 113] (by decide +kernel) (by decide +kernel)
set_option maxRecDepth 20000 in
theorem gX9_both_X9_alikeByBoth : GoodIn wsX9_both (wsV RX9 260 RX9 yX9_alikeByBoth wsX9_alikeByBoth) := goodIn_app (goodIn_of _ (by decide +kernel)) ggX9_both_X9_alikeByBoth
theorem dX9_both_0 : decode cX9_both 0 = .ok (.iload_n 1, 1) := by decide +kernel
theorem dX9_both_1 : decode cX9_both 1 = .ok (.ifCond .lt 8, 3) := by decide +kernel
theorem dX9_both_4 : decode cX9_both 4 = .ok (.iload_n 1, 1) := by decide +kernel
theorem dX9_both_5 : decode cX9_both 5 = .ok (.iconst 1, 1) := by decide +kernel
theorem dX9_both_6 : decode cX9_both 6 = .ok (.if_icmp .le 6, 3) := by decide +kernel
theorem dX9_both_9 : decode cX9_both 9 = .ok (.bipush (-2), 2) := by decide +kernel
theorem dX9_both_11 : decode cX9_both 11 = .ok (.ireturn, 1) := by decide +kernel
theorem dX9_both_12 : decode cX9_both 12 = .ok (.aload_n 0, 1) := by decide +kernel
theorem dX9_both_13 : decode cX9_both 13 = .ok (.invokevirtual 167, 3) := by decide +kernel
theorem dX9_both_16 : decode cX9_both 16 = .ok (.ifCond .eq 6, 3) := by decide +kernel
theorem dX9_both_19 : decode cX9_both 19 = .ok (.bipush (-3), 2) := by decide +kernel
theorem dX9_both_21 : decode cX9_both 21 = .ok (.ireturn, 1) := by decide +kernel
theorem dX9_both_22 : decode cX9_both 22 = .ok (.iload_n 1, 1) := by decide +kernel
theorem dX9_both_23 : decode cX9_both 23 = .ok (.ifCond .ne 10, 3) := by decide +kernel
theorem dX9_both_26 : decode cX9_both 26 = .ok (.aload_n 0, 1) := by decide +kernel
theorem dX9_both_27 : decode cX9_both 27 = .ok (.invokevirtual 257, 3) := by decide +kernel
theorem dX9_both_30 : decode cX9_both 30 = .ok (.goto 7, 3) := by decide +kernel
theorem dX9_both_33 : decode cX9_both 33 = .ok (.aload_n 0, 1) := by decide +kernel
theorem dX9_both_34 : decode cX9_both 34 = .ok (.invokevirtual 260, 3) := by decide +kernel
theorem dX9_both_37 : decode cX9_both 37 = .ok (.ireturn, 1) := by decide +kernel
set_option maxRecDepth 20000 in
theorem ggX9_knownByBoth_X4_weekday : GoodIn wsX9_knownByBoth wsX4_weekday := goodIn_r _ [8, 9, 80, 81, 82, 83, 84, 85] (by decide +kernel) (by decide +kernel)
set_option maxRecDepth 20000 in
theorem gX9_knownByBoth_X4_weekday : GoodIn wsX9_knownByBoth (wsV RX9 182 RX4 yX4_weekday wsX4_weekday) := goodIn_app (goodIn_of _ (by decide +kernel)) ggX9_knownByBoth_X4_weekday
set_option maxRecDepth 20000 in
theorem ggX9_knownByBoth_X5_answerIn : GoodIn wsX9_knownByBoth wsX5_answerIn := goodIn_r _ [14, 15, 16, 17, 13, 18, 19, 20, 21, 22, 23, 24, 25, 26, 27, 28, 29, 30, 31, 32, 33, 34, 35, 36, 37, 38, 39, 40, 41, 42, 43, 44, 45, 46, 47, 48, 49, 50, 51, 52, 53, 54, 55, 56, 57, 58, 59, 60, 91, 92, 93, 94] (by decide +kernel) (by decide +kernel)
set_option maxRecDepth 20000 in
theorem gX9_knownByBoth_X5_answerIn : GoodIn wsX9_knownByBoth (wsV RX9 185 RX5 yX5_answerIn wsX5_answerIn) := goodIn_app (goodIn_of _ (by decide +kernel)) ggX9_knownByBoth_X5_answerIn
