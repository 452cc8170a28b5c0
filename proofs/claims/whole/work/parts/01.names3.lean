set_option maxRecDepth 20000 in
theorem ggX9_knownByBoth_X5_casesAnswered : GoodIn wsX9_knownByBoth wsX5_casesAnswered := goodIn_r _ [18, 19, 20, 21, 13, 22, 23, 24, 25, 26, 27, 28, 29, 30, 31, 32, 33, 34, 35, 36, 37, 38, 39, 40, 41, 42, 43, 44, 45, 46, 47, 48, 49, 50, 51, 52, 53, 54, 55, 56, 57, 58, 91, 92, 93, 94] (by decide +kernel) (by decide +kernel)
set_option maxRecDepth 20000 in
theorem gX9_knownByBoth_X5_casesAnswered : GoodIn wsX9_knownByBoth (wsV RX9 189 RX5 yX5_casesAnswered wsX5_casesAnswered) := goodIn_app (goodIn_of _ (by decide +kernel)) ggX9_knownByBoth_X5_casesAnswered
set_option maxRecDepth 20000 in
theorem ggX9_knownByBoth_J6_bitCount_0f7a4 : GoodIn wsX9_knownByBoth wsJ6_bitCount_0f7a4 := goodIn_r _ [65, 66, 67, 68] (by decide +kernel) (by decide +kernel)
set_option maxRecDepth 20000 in
theorem gX9_knownByBoth_J6_bitCount_0f7a4 : GoodIn wsX9_knownByBoth (va_wsS RX9 222 yJ6_bitCount_0f7a4 wsJ6_bitCount_0f7a4) := goodIn_app (goodIn_of _ (by decide +kernel)) ggX9_knownByBoth_J6_bitCount_0f7a4
theorem dX9_knownByBoth_0 : decode cX9_knownByBoth 0 = .ok (.aload_n 0, 1) := by decide +kernel
theorem dX9_knownByBoth_1 : decode cX9_knownByBoth 1 = .ok (.getfield 35, 3) := by decide +kernel
theorem dX9_knownByBoth_4 : decode cX9_knownByBoth 4 = .ok (.invokevirtual 182, 3) := by decide +kernel
theorem dX9_knownByBoth_7 : decode cX9_knownByBoth 7 = .ok (.istore_n 1, 1) := by decide +kernel
theorem dX9_knownByBoth_8 : decode cX9_knownByBoth 8 = .ok (.aload_n 0, 1) := by decide +kernel
theorem dX9_knownByBoth_9 : decode cX9_knownByBoth 9 = .ok (.getfield 21, 3) := by decide +kernel
theorem dX9_knownByBoth_12 : decode cX9_knownByBoth 12 = .ok (.iload_n 1, 1) := by decide +kernel
theorem dX9_knownByBoth_13 : decode cX9_knownByBoth 13 = .ok (.aload_n 0, 1) := by decide +kernel
theorem dX9_knownByBoth_14 : decode cX9_knownByBoth 14 = .ok (.getfield 35, 3) := by decide +kernel
theorem dX9_knownByBoth_17 : decode cX9_knownByBoth 17 = .ok (.getfield 141, 3) := by decide +kernel
theorem dX9_knownByBoth_20 : decode cX9_knownByBoth 20 = .ok (.aload_n 0, 1) := by decide +kernel
theorem dX9_knownByBoth_21 : decode cX9_knownByBoth 21 = .ok (.getfield 28, 3) := by decide +kernel
theorem dX9_knownByBoth_24 : decode cX9_knownByBoth 24 = .ok (.getfield 148, 3) := by decide +kernel
theorem dX9_knownByBoth_27 : decode cX9_knownByBoth 27 = .ok (.iconst 0, 1) := by decide +kernel
theorem dX9_knownByBoth_28 : decode cX9_knownByBoth 28 = .ok (.invokevirtual 185, 3) := by decide +kernel
theorem dX9_knownByBoth_31 : decode cX9_knownByBoth 31 = .ok (.istore_n 2, 1) := by decide +kernel
theorem dX9_knownByBoth_32 : decode cX9_knownByBoth 32 = .ok (.aload_n 0, 1) := by decide +kernel
theorem dX9_knownByBoth_33 : decode cX9_knownByBoth 33 = .ok (.getfield 21, 3) := by decide +kernel
theorem dX9_knownByBoth_36 : decode cX9_knownByBoth 36 = .ok (.iload_n 1, 1) := by decide +kernel
theorem dX9_knownByBoth_37 : decode cX9_knownByBoth 37 = .ok (.aload_n 0, 1) := by decide +kernel
theorem dX9_knownByBoth_38 : decode cX9_knownByBoth 38 = .ok (.getfield 35, 3) := by decide +kernel
theorem dX9_knownByBoth_41 : decode cX9_knownByBoth 41 = .ok (.getfield 141, 3) := by decide +kernel
theorem dX9_knownByBoth_44 : decode cX9_knownByBoth 44 = .ok (.aload_n 0, 1) := by decide +kernel
theorem dX9_knownByBoth_45 : decode cX9_knownByBoth 45 = .ok (.getfield 28, 3) := by decide +kernel
theorem dX9_knownByBoth_48 : decode cX9_knownByBoth 48 = .ok (.getfield 148, 3) := by decide +kernel
theorem dX9_knownByBoth_51 : decode cX9_knownByBoth 51 = .ok (.iconst 1, 1) := by decide +kernel
theorem dX9_knownByBoth_52 : decode cX9_knownByBoth 52 = .ok (.invokevirtual 185, 3) := by decide +kernel
theorem dX9_knownByBoth_55 : decode cX9_knownByBoth 55 = .ok (.istore_n 3, 1) := by decide +kernel
theorem dX9_knownByBoth_56 : decode cX9_knownByBoth 56 = .ok (.iconst 0, 1) := by decide +kernel
theorem dX9_knownByBoth_57 : decode cX9_knownByBoth 57 = .ok (.istore 4, 2) := by decide +kernel
theorem dX9_knownByBoth_59 : decode cX9_knownByBoth 59 = .ok (.iconst 0, 1) := by decide +kernel
theorem dX9_knownByBoth_60 : decode cX9_knownByBoth 60 = .ok (.istore 5, 2) := by decide +kernel
theorem dX9_knownByBoth_62 : decode cX9_knownByBoth 62 = .ok (.iload 5, 2) := by decide +kernel
theorem dX9_knownByBoth_64 : decode cX9_knownByBoth 64 = .ok (.bipush 7, 2) := by decide +kernel
theorem dX9_knownByBoth_66 : decode cX9_knownByBoth 66 = .ok (.if_icmp .ge 53, 3) := by decide +kernel
theorem dX9_knownByBoth_69 : decode cX9_knownByBoth 69 = .ok (.iload 4, 2) := by decide +kernel
theorem dX9_knownByBoth_71 : decode cX9_knownByBoth 71 = .ok (.aload_n 0, 1) := by decide +kernel
theorem dX9_knownByBoth_72 : decode cX9_knownByBoth 72 = .ok (.getfield 35, 3) := by decide +kernel
theorem dX9_knownByBoth_75 : decode cX9_knownByBoth 75 = .ok (.getfield 113, 3) := by decide +kernel
theorem dX9_knownByBoth_78 : decode cX9_knownByBoth 78 = .ok (.iload 5, 2) := by decide +kernel
theorem dX9_knownByBoth_80 : decode cX9_knownByBoth 80 = .ok (.iaload, 1) := by decide +kernel
theorem dX9_knownByBoth_81 : decode cX9_knownByBoth 81 = .ok (.aload_n 0, 1) := by decide +kernel
theorem dX9_knownByBoth_82 : decode cX9_knownByBoth 82 = .ok (.getfield 21, 3) := by decide +kernel
theorem dX9_knownByBoth_85 : decode cX9_knownByBoth 85 = .ok (.iload_n 2, 1) := by decide +kernel
theorem dX9_knownByBoth_86 : decode cX9_knownByBoth 86 = .ok (.iload_n 1, 1) := by decide +kernel
theorem dX9_knownByBoth_87 : decode cX9_knownByBoth 87 = .ok (.iload 5, 2) := by decide +kernel
theorem dX9_knownByBoth_89 : decode cX9_knownByBoth 89 = .ok (.iconst 0, 1) := by decide +kernel
theorem dX9_knownByBoth_90 : decode cX9_knownByBoth 90 = .ok (.invokevirtual 189, 3) := by decide +kernel
theorem dX9_knownByBoth_93 : decode cX9_knownByBoth 93 = .ok (.iand, 1) := by decide +kernel
theorem dX9_knownByBoth_94 : decode cX9_knownByBoth 94 = .ok (.aload_n 0, 1) := by decide +kernel
theorem dX9_knownByBoth_95 : decode cX9_knownByBoth 95 = .ok (.getfield 21, 3) := by decide +kernel
theorem dX9_knownByBoth_98 : decode cX9_knownByBoth 98 = .ok (.iload_n 3, 1) := by decide +kernel
theorem dX9_knownByBoth_99 : decode cX9_knownByBoth 99 = .ok (.iload_n 1, 1) := by decide +kernel
theorem dX9_knownByBoth_100 : decode cX9_knownByBoth 100 = .ok (.iload 5, 2) := by decide +kernel
theorem dX9_knownByBoth_102 : decode cX9_knownByBoth 102 = .ok (.iconst 1, 1) := by decide +kernel
theorem dX9_knownByBoth_103 : decode cX9_knownByBoth 103 = .ok (.invokevirtual 189, 3) := by decide +kernel
theorem dX9_knownByBoth_106 : decode cX9_knownByBoth 106 = .ok (.iand, 1) := by decide +kernel
theorem dX9_knownByBoth_107 : decode cX9_knownByBoth 107 = .ok (.invokestatic 222, 3) := by decide +kernel
theorem dX9_knownByBoth_110 : decode cX9_knownByBoth 110 = .ok (.iadd, 1) := by decide +kernel
theorem dX9_knownByBoth_111 : decode cX9_knownByBoth 111 = .ok (.istore 4, 2) := by decide +kernel
theorem dX9_knownByBoth_113 : decode cX9_knownByBoth 113 = .ok (.iinc 5 1, 3) := by decide +kernel
theorem dX9_knownByBoth_116 : decode cX9_knownByBoth 116 = .ok (.goto (-54), 3) := by decide +kernel
theorem dX9_knownByBoth_119 : decode cX9_knownByBoth 119 = .ok (.iload 4, 2) := by decide +kernel
theorem dX9_knownByBoth_121 : decode cX9_knownByBoth 121 = .ok (.ireturn, 1) := by decide +kernel
set_option maxRecDepth 20000 in
theorem ggX9_alikeByBoth_X4_weekday : GoodIn wsX9_alikeByBoth wsX4_weekday := goodIn_r _ [7, 8, 72, 73, 74, 75, 76, 77] (by decide +kernel) (by decide +kernel)
set_option maxRecDepth 20000 in
theorem gX9_alikeByBoth_X4_weekday : GoodIn wsX9_alikeByBoth (wsV RX9 182 RX4 yX4_weekday wsX4_weekday) := goodIn_app (goodIn_of _ (by decide +kernel)) ggX9_alikeByBoth_X4_weekday
set_option maxRecDepth 20000 in
theorem ggX9_alikeByBoth_X5_casesAnswered : GoodIn wsX9_alikeByBoth wsX5_casesAnswered := goodIn_r _ [13, 14, 15, 16, 12, 17, 18, 19, 20, 21, 22, 23, 24, 25, 26, 27, 28, 29, 30, 31, 32, 33, 34, 35, 36, 37, 38, 39, 40, 41, 42, 43, 44, 45, 46, 47, 48, 49, 50, 51, 52, 53, 78, 79, 80, 81] (by decide +kernel) (by decide +kernel)
set_option maxRecDepth 20000 in
theorem gX9_alikeByBoth_X5_casesAnswered : GoodIn wsX9_alikeByBoth (wsV RX9 189 RX5 yX5_casesAnswered wsX5_casesAnswered) := goodIn_app (goodIn_of _ (by decide +kernel)) ggX9_alikeByBoth_X5_casesAnswered
set_option maxRecDepth 20000 in
theorem ggX9_alikeByBoth_J6_bitCount_0f7a4 : GoodIn wsX9_alikeByBoth wsJ6_bitCount_0f7a4 := goodIn_r _ [57, 58, 59, 60] (by decide +kernel) (by decide +kernel)
set_option maxRecDepth 20000 in
theorem gX9_alikeByBoth_J6_bitCount_0f7a4 : GoodIn wsX9_alikeByBoth (va_wsS RX9 222 yJ6_bitCount_0f7a4 wsJ6_bitCount_0f7a4) := goodIn_app (goodIn_of _ (by decide +kernel)) ggX9_alikeByBoth_J6_bitCount_0f7a4
theorem dX9_alikeByBoth_0 : decode cX9_alikeByBoth 0 = .ok (.aload_n 0, 1) := by decide +kernel
theorem dX9_alikeByBoth_1 : decode cX9_alikeByBoth 1 = .ok (.getfield 35, 3) := by decide +kernel
theorem dX9_alikeByBoth_4 : decode cX9_alikeByBoth 4 = .ok (.invokevirtual 182, 3) := by decide +kernel
theorem dX9_alikeByBoth_7 : decode cX9_alikeByBoth 7 = .ok (.istore_n 1, 1) := by decide +kernel
theorem dX9_alikeByBoth_8 : decode cX9_alikeByBoth 8 = .ok (.iconst 0, 1) := by decide +kernel
theorem dX9_alikeByBoth_9 : decode cX9_alikeByBoth 9 = .ok (.istore_n 2, 1) := by decide +kernel
theorem dX9_alikeByBoth_10 : decode cX9_alikeByBoth 10 = .ok (.iconst 0, 1) := by decide +kernel
theorem dX9_alikeByBoth_11 : decode cX9_alikeByBoth 11 = .ok (.istore_n 3, 1) := by decide +kernel
theorem dX9_alikeByBoth_12 : decode cX9_alikeByBoth 12 = .ok (.iload_n 3, 1) := by decide +kernel
theorem dX9_alikeByBoth_13 : decode cX9_alikeByBoth 13 = .ok (.bipush 7, 2) := by decide +kernel
theorem dX9_alikeByBoth_15 : decode cX9_alikeByBoth 15 = .ok (.if_icmp .ge 65, 3) := by decide +kernel
theorem dX9_alikeByBoth_18 : decode cX9_alikeByBoth 18 = .ok (.iconst 0, 1) := by decide +kernel
theorem dX9_alikeByBoth_19 : decode cX9_alikeByBoth 19 = .ok (.istore 4, 2) := by decide +kernel
theorem dX9_alikeByBoth_21 : decode cX9_alikeByBoth 21 = .ok (.iload 4, 2) := by decide +kernel
theorem dX9_alikeByBoth_23 : decode cX9_alikeByBoth 23 = .ok (.iconst 3, 1) := by decide +kernel
theorem dX9_alikeByBoth_24 : decode cX9_alikeByBoth 24 = .ok (.if_icmp .ge 50, 3) := by decide +kernel
theorem dX9_alikeByBoth_27 : decode cX9_alikeByBoth 27 = .ok (.iload_n 2, 1) := by decide +kernel
theorem dX9_alikeByBoth_28 : decode cX9_alikeByBoth 28 = .ok (.aload_n 0, 1) := by decide +kernel
theorem dX9_alikeByBoth_29 : decode cX9_alikeByBoth 29 = .ok (.getfield 35, 3) := by decide +kernel
theorem dX9_alikeByBoth_32 : decode cX9_alikeByBoth 32 = .ok (.getfield 113, 3) := by decide +kernel
theorem dX9_alikeByBoth_35 : decode cX9_alikeByBoth 35 = .ok (.iload_n 3, 1) := by decide +kernel
theorem dX9_alikeByBoth_36 : decode cX9_alikeByBoth 36 = .ok (.iaload, 1) := by decide +kernel
theorem dX9_alikeByBoth_37 : decode cX9_alikeByBoth 37 = .ok (.aload_n 0, 1) := by decide +kernel
theorem dX9_alikeByBoth_38 : decode cX9_alikeByBoth 38 = .ok (.getfield 21, 3) := by decide +kernel
theorem dX9_alikeByBoth_41 : decode cX9_alikeByBoth 41 = .ok (.iload 4, 2) := by decide +kernel
theorem dX9_alikeByBoth_43 : decode cX9_alikeByBoth 43 = .ok (.iload_n 1, 1) := by decide +kernel
theorem dX9_alikeByBoth_44 : decode cX9_alikeByBoth 44 = .ok (.iload_n 3, 1) := by decide +kernel
theorem dX9_alikeByBoth_45 : decode cX9_alikeByBoth 45 = .ok (.iconst 0, 1) := by decide +kernel
theorem dX9_alikeByBoth_46 : decode cX9_alikeByBoth 46 = .ok (.invokevirtual 189, 3) := by decide +kernel
theorem dX9_alikeByBoth_49 : decode cX9_alikeByBoth 49 = .ok (.iand, 1) := by decide +kernel
theorem dX9_alikeByBoth_50 : decode cX9_alikeByBoth 50 = .ok (.aload_n 0, 1) := by decide +kernel
theorem dX9_alikeByBoth_51 : decode cX9_alikeByBoth 51 = .ok (.getfield 21, 3) := by decide +kernel
theorem dX9_alikeByBoth_54 : decode cX9_alikeByBoth 54 = .ok (.iload 4, 2) := by decide +kernel
theorem dX9_alikeByBoth_56 : decode cX9_alikeByBoth 56 = .ok (.iload_n 1, 1) := by decide +kernel
theorem dX9_alikeByBoth_57 : decode cX9_alikeByBoth 57 = .ok (.iload_n 3, 1) := by decide +kernel
theorem dX9_alikeByBoth_58 : decode cX9_alikeByBoth 58 = .ok (.iconst 1, 1) := by decide +kernel
theorem dX9_alikeByBoth_59 : decode cX9_alikeByBoth 59 = .ok (.invokevirtual 189, 3) := by decide +kernel
theorem dX9_alikeByBoth_62 : decode cX9_alikeByBoth 62 = .ok (.iand, 1) := by decide +kernel
theorem dX9_alikeByBoth_63 : decode cX9_alikeByBoth 63 = .ok (.invokestatic 222, 3) := by decide +kernel
theorem dX9_alikeByBoth_66 : decode cX9_alikeByBoth 66 = .ok (.iadd, 1) := by decide +kernel
theorem dX9_alikeByBoth_67 : decode cX9_alikeByBoth 67 = .ok (.istore_n 2, 1) := by decide +kernel
theorem dX9_alikeByBoth_68 : decode cX9_alikeByBoth 68 = .ok (.iinc 4 1, 3) := by decide +kernel
theorem dX9_alikeByBoth_71 : decode cX9_alikeByBoth 71 = .ok (.goto (-50), 3) := by decide +kernel
theorem dX9_alikeByBoth_74 : decode cX9_alikeByBoth 74 = .ok (.iinc 3 1, 3) := by decide +kernel
theorem dX9_alikeByBoth_77 : decode cX9_alikeByBoth 77 = .ok (.goto (-65), 3) := by decide +kernel
theorem dX9_alikeByBoth_80 : decode cX9_alikeByBoth 80 = .ok (.iload_n 2, 1) := by decide +kernel
theorem dX9_alikeByBoth_81 : decode cX9_alikeByBoth 81 = .ok (.ireturn, 1) := by decide +kernel
set_option maxRecDepth 20000 in
theorem ggX9_tell_X1_hasSimple : GoodIn wsX9_tell wsX1_hasSimple := goodIn_r _ [7, 8, 9, 10, 11, 12, 13, 14, 6, 15, 16, 41, 42, 43, 44, 45] (by decide +kernel) (by decide +kernel)
set_option maxRecDepth 20000 in
theorem gX9_tell_X1_hasSimple : GoodIn wsX9_tell (wsV RX9 227 RX1 yX1_hasSimple wsX1_hasSimple) := goodIn_app (goodIn_of _ (by decide +kernel)) ggX9_tell_X1_hasSimple
set_option maxRecDepth 20000 in
theorem ggX9_tell_X9_isWeekday : GoodIn wsX9_tell wsX9_isWeekday := goodIn_r _ [20] (by decide +kernel) (by decide +kernel)
set_option maxRecDepth 20000 in
theorem gX9_tell_X9_isWeekday : GoodIn wsX9_tell (va_wsS RX9 213 yX9_isWeekday wsX9_isWeekday) := goodIn_app (goodIn_of _ (by decide +kernel)) ggX9_tell_X9_isWeekday
set_option maxRecDepth 20000 in
theorem ggX9_tell_X7_add : GoodIn wsX9_tell wsX7_add := goodIn_r _ [25, 26, 27, 28, 29, 46, 47, 48, 49] (by decide +kernel) (by decide +kernel)
set_option maxRecDepth 20000 in
theorem gX9_tell_X7_add : GoodIn wsX9_tell (wsV RX9 263 RX7 yX7_add wsX7_add) := goodIn_app (goodIn_of _ (by decide +kernel)) ggX9_tell_X7_add
theorem dX9_tell_0 : decode cX9_tell 0 = .ok (.aload_n 0, 1) := by decide +kernel
theorem dX9_tell_1 : decode cX9_tell 1 = .ok (.getfield 28, 3) := by decide +kernel
theorem dX9_tell_4 : decode cX9_tell 4 = .ok (.iload_n 1, 1) := by decide +kernel
theorem dX9_tell_5 : decode cX9_tell 5 = .ok (.invokevirtual 227, 3) := by decide +kernel
theorem dX9_tell_8 : decode cX9_tell 8 = .ok (.ifCond .eq 10, 3) := by decide +kernel
theorem dX9_tell_11 : decode cX9_tell 11 = .ok (.iload_n 2, 1) := by decide +kernel
theorem dX9_tell_12 : decode cX9_tell 12 = .ok (.invokestatic 213, 3) := by decide +kernel
theorem dX9_tell_15 : decode cX9_tell 15 = .ok (.ifCond .ne 6, 3) := by decide +kernel
theorem dX9_tell_18 : decode cX9_tell 18 = .ok (.bipush (-2), 2) := by decide +kernel
theorem dX9_tell_20 : decode cX9_tell 20 = .ok (.ireturn, 1) := by decide +kernel
theorem dX9_tell_21 : decode cX9_tell 21 = .ok (.aload_n 0, 1) := by decide +kernel
theorem dX9_tell_22 : decode cX9_tell 22 = .ok (.getfield 49, 3) := by decide +kernel
theorem dX9_tell_25 : decode cX9_tell 25 = .ok (.iload_n 1, 1) := by decide +kernel
theorem dX9_tell_26 : decode cX9_tell 26 = .ok (.iload_n 2, 1) := by decide +kernel
theorem dX9_tell_27 : decode cX9_tell 27 = .ok (.iload_n 3, 1) := by decide +kernel
theorem dX9_tell_28 : decode cX9_tell 28 = .ok (.ifCond .eq 7, 3) := by decide +kernel
theorem dX9_tell_31 : decode cX9_tell 31 = .ok (.iconst 1, 1) := by decide +kernel
theorem dX9_tell_32 : decode cX9_tell 32 = .ok (.goto 4, 3) := by decide +kernel
theorem dX9_tell_35 : decode cX9_tell 35 = .ok (.iconst 0, 1) := by decide +kernel
theorem dX9_tell_36 : decode cX9_tell 36 = .ok (.invokevirtual 263, 3) := by decide +kernel
theorem dX9_tell_39 : decode cX9_tell 39 = .ok (.ireturn, 1) := by decide +kernel
set_option maxRecDepth 20000 in
theorem ggX9_untell_X7_forget : GoodIn wsX9_untell wsX7_forget := goodIn_r _ [6, 7, 19, 20, 21, 22] (by decide +kernel) (by decide +kernel)
set_option maxRecDepth 20000 in
theorem gX9_untell_X7_forget : GoodIn wsX9_untell (wsV RX9 267 RX7 yX7_forget wsX7_forget) := goodIn_app (goodIn_of _ (by decide +kernel)) ggX9_untell_X7_forget
theorem dX9_untell_0 : decode cX9_untell 0 = .ok (.aload_n 0, 1) := by decide +kernel
theorem dX9_untell_1 : decode cX9_untell 1 = .ok (.getfield 49, 3) := by decide +kernel
theorem dX9_untell_4 : decode cX9_untell 4 = .ok (.invokevirtual 267, 3) := by decide +kernel
theorem dX9_untell_7 : decode cX9_untell 7 = .ok (.ireturn, 1) := by decide +kernel
set_option maxRecDepth 20000 in
theorem ggX9_march_X8_fill : GoodIn wsX9_march wsX8_fill := goodIn_r _ [7] (by decide +kernel) (by decide +kernel)
set_option maxRecDepth 20000 in
theorem gX9_march_X8_fill : GoodIn wsX9_march (va_wsS RX9 269 yX8_fill wsX8_fill) := goodIn_app (goodIn_of _ (by decide +kernel)) ggX9_march_X8_fill
set_option maxRecDepth 20000 in
theorem ggX9_march_X7_narrow : GoodIn wsX9_march wsX7_narrow := goodIn_r _ [12, 13, 14, 15, 16, 17, 18, 19, 20, 21, 22, 23, 24, 25, 26, 27, 28, 29, 30, 31, 32, 6, 33, 34, 35, 36, 37, 38, 39, 40, 41, 42, 43, 44, 45, 46, 47, 48, 49, 50, 51, 52, 53, 54, 55, 99, 100, 101, 102, 94, 95, 96, 97, 98] (by decide +kernel) (by decide +kernel)
set_option maxRecDepth 20000 in
theorem gX9_march_X7_narrow : GoodIn wsX9_march (wsV RX9 273 RX7 yX7_narrow wsX7_narrow) := goodIn_app (goodIn_of _ (by decide +kernel)) ggX9_march_X7_narrow
set_option maxRecDepth 20000 in
theorem ggX9_march_X8_count : GoodIn wsX9_march wsX8_count := goodIn_r _ [58, 59, 60, 61, 62, 63, 64, 65] (by decide +kernel) (by decide +kernel)
set_option maxRecDepth 20000 in
theorem gX9_march_X8_count : GoodIn wsX9_march (va_wsS RX9 116 yX8_count wsX8_count) := goodIn_app (goodIn_of _ (by decide +kernel)) ggX9_march_X8_count
set_option maxRecDepth 20000 in
theorem ggX9_march_X8_trueDays : GoodIn wsX9_march wsX8_trueDays := goodIn_r _ [68] (by decide +kernel) (by decide +kernel)
set_option maxRecDepth 20000 in
theorem gX9_march_X8_trueDays : GoodIn wsX9_march (va_wsS RX9 138 yX8_trueDays wsX8_trueDays) := goodIn_app (goodIn_of _ (by decide +kernel)) ggX9_march_X8_trueDays
set_option maxRecDepth 20000 in
theorem ggX9_march_X9_factsOfMarch : GoodIn wsX9_march wsX9_factsOfMarch := goodIn_r _ [72, 1, 2, 73, 74, 6, 75, 76, 77, 45, 78, 79, 51, 52, 53, 80, 81, 82, 83, 84, 85, 86, 87, 88, 89, 90, 91, 92, 93, 94, 95, 96, 97, 98] (by decide +kernel) (by decide +kernel)
set_option maxRecDepth 20000 in
theorem gX9_march_X9_factsOfMarch : GoodIn wsX9_march (wsV RX9 277 RX9 yX9_factsOfMarch wsX9_factsOfMarch) := goodIn_app (goodIn_of _ (by decide +kernel)) ggX9_march_X9_factsOfMarch
theorem dX9_march_0 : decode cX9_march 0 = .ok (.iload_n 1, 1) := by decide +kernel
theorem dX9_march_1 : decode cX9_march 1 = .ok (.ifCond .lt 8, 3) := by decide +kernel
theorem dX9_march_4 : decode cX9_march 4 = .ok (.iload_n 1, 1) := by decide +kernel
theorem dX9_march_5 : decode cX9_march 5 = .ok (.iconst 3, 1) := by decide +kernel
theorem dX9_march_6 : decode cX9_march 6 = .ok (.if_icmp .le 6, 3) := by decide +kernel
theorem dX9_march_9 : decode cX9_march 9 = .ok (.bipush (-2), 2) := by decide +kernel
theorem dX9_march_11 : decode cX9_march 11 = .ok (.ireturn, 1) := by decide +kernel
theorem dX9_march_12 : decode cX9_march 12 = .ok (.aload_n 0, 1) := by decide +kernel
theorem dX9_march_13 : decode cX9_march 13 = .ok (.getfield 68, 3) := by decide +kernel
theorem dX9_march_16 : decode cX9_march 16 = .ok (.aload_n 0, 1) := by decide +kernel
theorem dX9_march_17 : decode cX9_march 17 = .ok (.getfield 28, 3) := by decide +kernel
theorem dX9_march_20 : decode cX9_march 20 = .ok (.getfield 75, 3) := by decide +kernel
theorem dX9_march_23 : decode cX9_march 23 = .ok (.invokestatic 269, 3) := by decide +kernel
theorem dX9_march_26 : decode cX9_march 26 = .ok (.aload_n 0, 1) := by decide +kernel
theorem dX9_march_27 : decode cX9_march 27 = .ok (.getfield 49, 3) := by decide +kernel
theorem dX9_march_30 : decode cX9_march 30 = .ok (.aload_n 0, 1) := by decide +kernel
theorem dX9_march_31 : decode cX9_march 31 = .ok (.getfield 68, 3) := by decide +kernel
theorem dX9_march_34 : decode cX9_march 34 = .ok (.aload_n 0, 1) := by decide +kernel
theorem dX9_march_35 : decode cX9_march 35 = .ok (.getfield 28, 3) := by decide +kernel
theorem dX9_march_38 : decode cX9_march 38 = .ok (.invokevirtual 273, 3) := by decide +kernel
theorem dX9_march_41 : decode cX9_march 41 = .ok (.iload_n 1, 1) := by decide +kernel
theorem dX9_march_42 : decode cX9_march 42 = .ok (.lookupswitch 42 #[(0, 26), (1, 34)], 26) := by decide +kernel
theorem dX9_march_68 : decode cX9_march 68 = .ok (.aload_n 0, 1) := by decide +kernel
theorem dX9_march_69 : decode cX9_march 69 = .ok (.getfield 68, 3) := by decide +kernel
theorem dX9_march_72 : decode cX9_march 72 = .ok (.invokestatic 116, 3) := by decide +kernel
theorem dX9_march_75 : decode cX9_march 75 = .ok (.ireturn, 1) := by decide +kernel
theorem dX9_march_76 : decode cX9_march 76 = .ok (.aload_n 0, 1) := by decide +kernel
theorem dX9_march_77 : decode cX9_march 77 = .ok (.getfield 68, 3) := by decide +kernel
theorem dX9_march_80 : decode cX9_march 80 = .ok (.invokestatic 138, 3) := by decide +kernel
theorem dX9_march_83 : decode cX9_march 83 = .ok (.ireturn, 1) := by decide +kernel
theorem dX9_march_84 : decode cX9_march 84 = .ok (.aload_n 0, 1) := by decide +kernel
theorem dX9_march_85 : decode cX9_march 85 = .ok (.iload_n 1, 1) := by decide +kernel
theorem dX9_march_86 : decode cX9_march 86 = .ok (.iconst 2, 1) := by decide +kernel
theorem dX9_march_87 : decode cX9_march 87 = .ok (.if_icmp .ne 7, 3) := by decide +kernel
theorem dX9_march_90 : decode cX9_march 90 = .ok (.iconst 1, 1) := by decide +kernel
theorem dX9_march_91 : decode cX9_march 91 = .ok (.goto 4, 3) := by decide +kernel
theorem dX9_march_94 : decode cX9_march 94 = .ok (.iconst 0, 1) := by decide +kernel
theorem dX9_march_95 : decode cX9_march 95 = .ok (.invokevirtual 277, 3) := by decide +kernel
theorem dX9_march_98 : decode cX9_march 98 = .ok (.ireturn, 1) := by decide +kernel
set_option maxRecDepth 20000 in
theorem ggX9_factsOfMarch_X8_casesOfAnyDay : GoodIn wsX9_factsOfMarch wsX8_casesOfAnyDay := goodIn_r _ [6] (by decide +kernel) (by decide +kernel)
set_option maxRecDepth 20000 in
theorem gX9_factsOfMarch_X8_casesOfAnyDay : GoodIn wsX9_factsOfMarch (va_wsS RX9 157 yX8_casesOfAnyDay wsX8_casesOfAnyDay) := goodIn_app (goodIn_of _ (by decide +kernel)) ggX9_factsOfMarch_X8_casesOfAnyDay
set_option maxRecDepth 20000 in
theorem ggX9_factsOfMarch_X9_isSoInAll : GoodIn wsX9_factsOfMarch wsX9_isSoInAll := goodIn_r _ [10, 11, 12, 9, 13, 14] (by decide +kernel) (by decide +kernel)
set_option maxRecDepth 20000 in
theorem gX9_factsOfMarch_X9_isSoInAll : GoodIn wsX9_factsOfMarch (va_wsS RX9 160 yX9_isSoInAll wsX9_isSoInAll) := goodIn_app (goodIn_of _ (by decide +kernel)) ggX9_factsOfMarch_X9_isSoInAll
set_option maxRecDepth 20000 in
theorem ggX9_factsOfMarch_X9_isSoInNone : GoodIn wsX9_factsOfMarch wsX9_isSoInNone := goodIn_r _ [17, 11, 12, 9, 13, 14] (by decide +kernel) (by decide +kernel)
set_option maxRecDepth 20000 in
theorem gX9_factsOfMarch_X9_isSoInNone : GoodIn wsX9_factsOfMarch (va_wsS RX9 164 yX9_isSoInNone wsX9_isSoInNone) := goodIn_app (goodIn_of _ (by decide +kernel)) ggX9_factsOfMarch_X9_isSoInNone
theorem dX9_factsOfMarch_0 : decode cX9_factsOfMarch 0 = .ok (.aload_n 0, 1) := by decide +kernel
theorem dX9_factsOfMarch_1 : decode cX9_factsOfMarch 1 = .ok (.getfield 68, 3) := by decide +kernel
theorem dX9_factsOfMarch_4 : decode cX9_factsOfMarch 4 = .ok (.invokestatic 157, 3) := by decide +kernel
theorem dX9_factsOfMarch_7 : decode cX9_factsOfMarch 7 = .ok (.istore_n 2, 1) := by decide +kernel
theorem dX9_factsOfMarch_8 : decode cX9_factsOfMarch 8 = .ok (.iload_n 2, 1) := by decide +kernel
theorem dX9_factsOfMarch_9 : decode cX9_factsOfMarch 9 = .ok (.ifCond .ne 6, 3) := by decide +kernel
theorem dX9_factsOfMarch_12 : decode cX9_factsOfMarch 12 = .ok (.bipush (-9), 2) := by decide +kernel
theorem dX9_factsOfMarch_14 : decode cX9_factsOfMarch 14 = .ok (.ireturn, 1) := by decide +kernel
theorem dX9_factsOfMarch_15 : decode cX9_factsOfMarch 15 = .ok (.iconst 0, 1) := by decide +kernel
theorem dX9_factsOfMarch_16 : decode cX9_factsOfMarch 16 = .ok (.istore_n 3, 1) := by decide +kernel
theorem dX9_factsOfMarch_17 : decode cX9_factsOfMarch 17 = .ok (.iconst 0, 1) := by decide +kernel
theorem dX9_factsOfMarch_18 : decode cX9_factsOfMarch 18 = .ok (.istore 4, 2) := by decide +kernel
theorem dX9_factsOfMarch_20 : decode cX9_factsOfMarch 20 = .ok (.iload 4, 2) := by decide +kernel
theorem dX9_factsOfMarch_22 : decode cX9_factsOfMarch 22 = .ok (.aload_n 0, 1) := by decide +kernel
theorem dX9_factsOfMarch_23 : decode cX9_factsOfMarch 23 = .ok (.getfield 28, 3) := by decide +kernel
theorem dX9_factsOfMarch_26 : decode cX9_factsOfMarch 26 = .ok (.getfield 101, 3) := by decide +kernel
theorem dX9_factsOfMarch_29 : decode cX9_factsOfMarch 29 = .ok (.if_icmp .ge 41, 3) := by decide +kernel
theorem dX9_factsOfMarch_32 : decode cX9_factsOfMarch 32 = .ok (.iload_n 1, 1) := by decide +kernel
theorem dX9_factsOfMarch_33 : decode cX9_factsOfMarch 33 = .ok (.ifCond .eq 15, 3) := by decide +kernel
theorem dX9_factsOfMarch_36 : decode cX9_factsOfMarch 36 = .ok (.iload_n 2, 1) := by decide +kernel
theorem dX9_factsOfMarch_37 : decode cX9_factsOfMarch 37 = .ok (.iload 4, 2) := by decide +kernel
theorem dX9_factsOfMarch_39 : decode cX9_factsOfMarch 39 = .ok (.invokestatic 160, 3) := by decide +kernel
theorem dX9_factsOfMarch_42 : decode cX9_factsOfMarch 42 = .ok (.ifCond .eq 22, 3) := by decide +kernel
theorem dX9_factsOfMarch_45 : decode cX9_factsOfMarch 45 = .ok (.goto 12, 3) := by decide +kernel
theorem dX9_factsOfMarch_48 : decode cX9_factsOfMarch 48 = .ok (.iload_n 2, 1) := by decide +kernel
theorem dX9_factsOfMarch_49 : decode cX9_factsOfMarch 49 = .ok (.iload 4, 2) := by decide +kernel
theorem dX9_factsOfMarch_51 : decode cX9_factsOfMarch 51 = .ok (.invokestatic 164, 3) := by decide +kernel
theorem dX9_factsOfMarch_54 : decode cX9_factsOfMarch 54 = .ok (.ifCond .eq 10, 3) := by decide +kernel
theorem dX9_factsOfMarch_57 : decode cX9_factsOfMarch 57 = .ok (.iload_n 3, 1) := by decide +kernel
theorem dX9_factsOfMarch_58 : decode cX9_factsOfMarch 58 = .ok (.iconst 1, 1) := by decide +kernel
theorem dX9_factsOfMarch_59 : decode cX9_factsOfMarch 59 = .ok (.iload 4, 2) := by decide +kernel
theorem dX9_factsOfMarch_61 : decode cX9_factsOfMarch 61 = .ok (.ishl, 1) := by decide +kernel
theorem dX9_factsOfMarch_62 : decode cX9_factsOfMarch 62 = .ok (.ior, 1) := by decide +kernel
theorem dX9_factsOfMarch_63 : decode cX9_factsOfMarch 63 = .ok (.istore_n 3, 1) := by decide +kernel
theorem dX9_factsOfMarch_64 : decode cX9_factsOfMarch 64 = .ok (.iinc 4 1, 3) := by decide +kernel
theorem dX9_factsOfMarch_67 : decode cX9_factsOfMarch 67 = .ok (.goto (-47), 3) := by decide +kernel
theorem dX9_factsOfMarch_70 : decode cX9_factsOfMarch 70 = .ok (.iload_n 3, 1) := by decide +kernel
theorem dX9_factsOfMarch_71 : decode cX9_factsOfMarch 71 = .ok (.ireturn, 1) := by decide +kernel
set_option maxRecDepth 20000 in
theorem ggX9_likely_X1_hasFact : GoodIn wsX9_likely wsX1_hasFact := goodIn_r _ [7, 8, 52, 53, 54, 55, 56] (by decide +kernel) (by decide +kernel)
set_option maxRecDepth 20000 in
theorem gX9_likely_X1_hasFact : GoodIn wsX9_likely (wsV RX9 144 RX1 yX1_hasFact wsX1_hasFact) := goodIn_app (goodIn_of _ (by decide +kernel)) ggX9_likely_X1_hasFact
set_option maxRecDepth 20000 in
theorem ggX9_likely_X8_countWithFact : GoodIn wsX9_likely wsX8_countWithFact := goodIn_r _ [12, 13, 14, 15, 16, 17, 18, 19, 20, 21, 22, 23] (by decide +kernel) (by decide +kernel)
set_option maxRecDepth 20000 in
theorem gX9_likely_X8_countWithFact : GoodIn wsX9_likely (va_wsS RX9 281 yX8_countWithFact wsX8_countWithFact) := goodIn_app (goodIn_of _ (by decide +kernel)) ggX9_likely_X8_countWithFact
set_option maxRecDepth 20000 in
theorem ggX9_likely_X6_isOfDay : GoodIn wsX9_likely wsX6_isOfDay := goodIn_r _ [27] (by decide +kernel) (by decide +kernel)
set_option maxRecDepth 20000 in
theorem gX9_likely_X6_isOfDay : GoodIn wsX9_likely (va_wsS RX9 285 yX6_isOfDay wsX6_isOfDay) := goodIn_app (goodIn_of _ (by decide +kernel)) ggX9_likely_X6_isOfDay
set_option maxRecDepth 20000 in
theorem ggX9_likely_J6_bitCount_0f7a4 : GoodIn wsX9_likely wsJ6_bitCount_0f7a4 := goodIn_r _ [20, 21, 22, 23] (by decide +kernel) (by decide +kernel)
set_option maxRecDepth 20000 in
theorem gX9_likely_J6_bitCount_0f7a4 : GoodIn wsX9_likely (va_wsS RX9 222 yJ6_bitCount_0f7a4 wsJ6_bitCount_0f7a4) := goodIn_app (goodIn_of _ (by decide +kernel)) ggX9_likely_J6_bitCount_0f7a4
set_option maxRecDepth 20000 in
theorem ggX9_likely_X8_count : GoodIn wsX9_likely wsX8_count := goodIn_r _ [31, 17, 18, 19, 20, 21, 22, 23] (by decide +kernel) (by decide +kernel)
set_option maxRecDepth 20000 in
theorem gX9_likely_X8_count : GoodIn wsX9_likely (va_wsS RX9 116 yX8_count wsX8_count) := goodIn_app (goodIn_of _ (by decide +kernel)) ggX9_likely_X8_count
set_option maxRecDepth 20000 in
theorem ggX9_likely_X9_greatestDivisor : GoodIn wsX9_likely wsX9_greatestDivisor := goodIn_r _ [34] (by decide +kernel) (by decide +kernel)
set_option maxRecDepth 20000 in
theorem gX9_likely_X9_greatestDivisor : GoodIn wsX9_likely (va_wsS RX9 288 yX9_greatestDivisor wsX9_greatestDivisor) := goodIn_app (goodIn_of _ (by decide +kernel)) ggX9_likely_X9_greatestDivisor
theorem dX9_likely_0 : decode cX9_likely 0 = .ok (.aload_n 0, 1) := by decide +kernel
theorem dX9_likely_1 : decode cX9_likely 1 = .ok (.getfield 28, 3) := by decide +kernel
theorem dX9_likely_4 : decode cX9_likely 4 = .ok (.iload_n 1, 1) := by decide +kernel
theorem dX9_likely_5 : decode cX9_likely 5 = .ok (.invokevirtual 144, 3) := by decide +kernel
theorem dX9_likely_8 : decode cX9_likely 8 = .ok (.ifCond .eq 18, 3) := by decide +kernel
theorem dX9_likely_11 : decode cX9_likely 11 = .ok (.aload_n 0, 1) := by decide +kernel
theorem dX9_likely_12 : decode cX9_likely 12 = .ok (.getfield 35, 3) := by decide +kernel
theorem dX9_likely_15 : decode cX9_likely 15 = .ok (.getfield 113, 3) := by decide +kernel
theorem dX9_likely_18 : decode cX9_likely 18 = .ok (.iload_n 1, 1) := by decide +kernel
theorem dX9_likely_19 : decode cX9_likely 19 = .ok (.invokestatic 281, 3) := by decide +kernel
theorem dX9_likely_22 : decode cX9_likely 22 = .ok (.istore_n 3, 1) := by decide +kernel
theorem dX9_likely_23 : decode cX9_likely 23 = .ok (.goto 32, 3) := by decide +kernel
theorem dX9_likely_26 : decode cX9_likely 26 = .ok (.iload_n 1, 1) := by decide +kernel
theorem dX9_likely_27 : decode cX9_likely 27 = .ok (.invokestatic 285, 3) := by decide +kernel
theorem dX9_likely_30 : decode cX9_likely 30 = .ok (.ifCond .eq 22, 3) := by decide +kernel
theorem dX9_likely_33 : decode cX9_likely 33 = .ok (.aload_n 0, 1) := by decide +kernel
theorem dX9_likely_34 : decode cX9_likely 34 = .ok (.getfield 35, 3) := by decide +kernel
theorem dX9_likely_37 : decode cX9_likely 37 = .ok (.getfield 113, 3) := by decide +kernel
theorem dX9_likely_40 : decode cX9_likely 40 = .ok (.iload_n 1, 1) := by decide +kernel
theorem dX9_likely_41 : decode cX9_likely 41 = .ok (.bipush 6, 2) := by decide +kernel
theorem dX9_likely_43 : decode cX9_likely 43 = .ok (.isub, 1) := by decide +kernel
theorem dX9_likely_44 : decode cX9_likely 44 = .ok (.iaload, 1) := by decide +kernel
theorem dX9_likely_45 : decode cX9_likely 45 = .ok (.invokestatic 222, 3) := by decide +kernel
theorem dX9_likely_48 : decode cX9_likely 48 = .ok (.istore_n 3, 1) := by decide +kernel
theorem dX9_likely_49 : decode cX9_likely 49 = .ok (.goto 6, 3) := by decide +kernel
theorem dX9_likely_52 : decode cX9_likely 52 = .ok (.bipush (-2), 2) := by decide +kernel
theorem dX9_likely_54 : decode cX9_likely 54 = .ok (.ireturn, 1) := by decide +kernel
theorem dX9_likely_55 : decode cX9_likely 55 = .ok (.aload_n 0, 1) := by decide +kernel
theorem dX9_likely_56 : decode cX9_likely 56 = .ok (.getfield 35, 3) := by decide +kernel
theorem dX9_likely_59 : decode cX9_likely 59 = .ok (.getfield 113, 3) := by decide +kernel
theorem dX9_likely_62 : decode cX9_likely 62 = .ok (.invokestatic 116, 3) := by decide +kernel
theorem dX9_likely_65 : decode cX9_likely 65 = .ok (.istore 4, 2) := by decide +kernel
theorem dX9_likely_67 : decode cX9_likely 67 = .ok (.iload_n 3, 1) := by decide +kernel
theorem dX9_likely_68 : decode cX9_likely 68 = .ok (.iload 4, 2) := by decide +kernel
theorem dX9_likely_70 : decode cX9_likely 70 = .ok (.invokestatic 288, 3) := by decide +kernel
theorem dX9_likely_73 : decode cX9_likely 73 = .ok (.istore 5, 2) := by decide +kernel
theorem dX9_likely_75 : decode cX9_likely 75 = .ok (.iload_n 2, 1) := by decide +kernel
theorem dX9_likely_76 : decode cX9_likely 76 = .ok (.ifCond .eq 7, 3) := by decide +kernel
theorem dX9_likely_79 : decode cX9_likely 79 = .ok (.iload_n 3, 1) := by decide +kernel
theorem dX9_likely_80 : decode cX9_likely 80 = .ok (.goto 5, 3) := by decide +kernel
theorem dX9_likely_83 : decode cX9_likely 83 = .ok (.iload 4, 2) := by decide +kernel
theorem dX9_likely_85 : decode cX9_likely 85 = .ok (.iload 5, 2) := by decide +kernel
theorem dX9_likely_87 : decode cX9_likely 87 = .ok (.idiv, 1) := by decide +kernel
theorem dX9_likely_88 : decode cX9_likely 88 = .ok (.ireturn, 1) := by decide +kernel
theorem dX9_seed_0 : decode cX9_seed 0 = .ok (.aload_n 0, 1) := by decide +kernel
theorem dX9_seed_1 : decode cX9_seed 1 = .ok (.getfield 174, 3) := by decide +kernel
theorem dX9_seed_4 : decode cX9_seed 4 = .ok (.lstore_n 3, 1) := by decide +kernel
theorem dX9_seed_5 : decode cX9_seed 5 = .ok (.aload_n 0, 1) := by decide +kernel
theorem dX9_seed_6 : decode cX9_seed 6 = .ok (.lload_n 1, 1) := by decide +kernel
theorem dX9_seed_7 : decode cX9_seed 7 = .ok (.putfield 174, 3) := by decide +kernel
theorem dX9_seed_10 : decode cX9_seed 10 = .ok (.lload_n 3, 1) := by decide +kernel
theorem dX9_seed_11 : decode cX9_seed 11 = .ok (.lreturn, 1) := by decide +kernel
set_option maxRecDepth 20000 in
theorem ggX9_year_X9_hasSlip : GoodIn wsX9_year wsX9_hasSlip := goodIn_r _ [9, 3, 4, 10, 11, 12, 13, 14, 15, 16, 17, 18, 19, 20, 21, 22, 23, 24, 25, 26, 27, 28, 29, 30, 31, 32, 33, 34, 35, 36, 37, 38, 39, 40, 41, 42, 43, 44, 45, 87, 88, 89, 90, 91, 92, 93, 94, 95, 96, 97, 109, 110, 111, 112, 104, 105, 106, 107, 108] (by decide +kernel) (by decide +kernel)
set_option maxRecDepth 20000 in
theorem gX9_year_X9_hasSlip : GoodIn wsX9_year (wsV RX9 167 RX9 yX9_hasSlip wsX9_hasSlip) := goodIn_app (goodIn_of _ (by decide +kernel)) ggX9_year_X9_hasSlip
set_option maxRecDepth 20000 in
theorem ggX9_year_X9_nextSeed : GoodIn wsX9_year wsX9_nextSeed := goodIn_r _ [48, 49, 50] (by decide +kernel) (by decide +kernel)
set_option maxRecDepth 20000 in
theorem gX9_year_X9_nextSeed : GoodIn wsX9_year (va_wsS RX9 198 yX9_nextSeed wsX9_nextSeed) := goodIn_app (goodIn_of _ (by decide +kernel)) ggX9_year_X9_nextSeed
set_option maxRecDepth 20000 in
theorem ggX9_year_X9_drawnDay : GoodIn wsX9_year wsX9_drawnDay := goodIn_r _ [53, 54] (by decide +kernel) (by decide +kernel)
set_option maxRecDepth 20000 in
theorem gX9_year_X9_drawnDay : GoodIn wsX9_year (va_wsS RX9 202 yX9_drawnDay wsX9_drawnDay) := goodIn_app (goodIn_of _ (by decide +kernel)) ggX9_year_X9_drawnDay
set_option maxRecDepth 20000 in
theorem ggX9_year_X5_answerIn : GoodIn wsX9_year wsX5_answerIn := goodIn_r _ [58, 59, 60, 61, 13, 62, 63, 64, 65, 66, 15, 67, 16, 17, 18, 19, 20, 21, 22, 26, 27, 28, 68, 69, 70, 29, 30, 31, 71, 72, 39, 73, 74, 8, 75, 76, 77, 78, 79, 38, 40, 80, 81, 82, 83, 84, 85, 86, 109, 110, 111, 112] (by decide +kernel) (by decide +kernel)
set_option maxRecDepth 20000 in
theorem gX9_year_X5_answerIn : GoodIn wsX9_year (wsV RX9 185 RX5 yX5_answerIn wsX5_answerIn) := goodIn_app (goodIn_of _ (by decide +kernel)) ggX9_year_X5_answerIn
theorem dX9_year_0 : decode cX9_year 0 = .ok (.iload_n 1, 1) := by decide +kernel
theorem dX9_year_1 : decode cX9_year 1 = .ok (.iconst 1, 1) := by decide +kernel
theorem dX9_year_2 : decode cX9_year 2 = .ok (.if_icmp .lt 9, 3) := by decide +kernel
theorem dX9_year_5 : decode cX9_year 5 = .ok (.iload_n 1, 1) := by decide +kernel
theorem dX9_year_6 : decode cX9_year 6 = .ok (.bipush 60, 2) := by decide +kernel
theorem dX9_year_8 : decode cX9_year 8 = .ok (.if_icmp .le 6, 3) := by decide +kernel
theorem dX9_year_11 : decode cX9_year 11 = .ok (.bipush (-2), 2) := by decide +kernel
theorem dX9_year_13 : decode cX9_year 13 = .ok (.ireturn, 1) := by decide +kernel
theorem dX9_year_14 : decode cX9_year 14 = .ok (.aload_n 0, 1) := by decide +kernel
theorem dX9_year_15 : decode cX9_year 15 = .ok (.invokevirtual 167, 3) := by decide +kernel
theorem dX9_year_18 : decode cX9_year 18 = .ok (.ifCond .eq 6, 3) := by decide +kernel
theorem dX9_year_21 : decode cX9_year 21 = .ok (.bipush (-3), 2) := by decide +kernel
theorem dX9_year_23 : decode cX9_year 23 = .ok (.ireturn, 1) := by decide +kernel
theorem dX9_year_24 : decode cX9_year 24 = .ok (.aload_n 0, 1) := by decide +kernel
theorem dX9_year_25 : decode cX9_year 25 = .ok (.getfield 35, 3) := by decide +kernel
theorem dX9_year_28 : decode cX9_year 28 = .ok (.getfield 110, 3) := by decide +kernel
theorem dX9_year_31 : decode cX9_year 31 = .ok (.istore_n 2, 1) := by decide +kernel
theorem dX9_year_32 : decode cX9_year 32 = .ok (.aload_n 0, 1) := by decide +kernel
theorem dX9_year_33 : decode cX9_year 33 = .ok (.getfield 35, 3) := by decide +kernel
theorem dX9_year_36 : decode cX9_year 36 = .ok (.getfield 141, 3) := by decide +kernel
theorem dX9_year_39 : decode cX9_year 39 = .ok (.istore_n 3, 1) := by decide +kernel
theorem dX9_year_40 : decode cX9_year 40 = .ok (.iconst 0, 1) := by decide +kernel
theorem dX9_year_41 : decode cX9_year 41 = .ok (.istore 4, 2) := by decide +kernel
theorem dX9_year_43 : decode cX9_year 43 = .ok (.iconst 0, 1) := by decide +kernel
theorem dX9_year_44 : decode cX9_year 44 = .ok (.istore 5, 2) := by decide +kernel
theorem dX9_year_46 : decode cX9_year 46 = .ok (.iload 5, 2) := by decide +kernel
theorem dX9_year_48 : decode cX9_year 48 = .ok (.iload_n 1, 1) := by decide +kernel
theorem dX9_year_49 : decode cX9_year 49 = .ok (.if_icmp .ge 66, 3) := by decide +kernel
theorem dX9_year_52 : decode cX9_year 52 = .ok (.iload_n 2, 1) := by decide +kernel
theorem dX9_year_53 : decode cX9_year 53 = .ok (.iconst 1, 1) := by decide +kernel
theorem dX9_year_54 : decode cX9_year 54 = .ok (.iadd, 1) := by decide +kernel
theorem dX9_year_55 : decode cX9_year 55 = .ok (.bipush 28, 2) := by decide +kernel
theorem dX9_year_57 : decode cX9_year 57 = .ok (.irem, 1) := by decide +kernel
theorem dX9_year_58 : decode cX9_year 58 = .ok (.istore_n 2, 1) := by decide +kernel
theorem dX9_year_59 : decode cX9_year 59 = .ok (.iload_n 2, 1) := by decide +kernel
theorem dX9_year_60 : decode cX9_year 60 = .ok (.ifCond .ne 22, 3) := by decide +kernel
theorem dX9_year_63 : decode cX9_year 63 = .ok (.aload_n 0, 1) := by decide +kernel
theorem dX9_year_64 : decode cX9_year 64 = .ok (.aload_n 0, 1) := by decide +kernel
theorem dX9_year_65 : decode cX9_year 65 = .ok (.getfield 174, 3) := by decide +kernel
theorem dX9_year_68 : decode cX9_year 68 = .ok (.invokestatic 198, 3) := by decide +kernel
theorem dX9_year_71 : decode cX9_year 71 = .ok (.putfield 174, 3) := by decide +kernel
theorem dX9_year_74 : decode cX9_year 74 = .ok (.aload_n 0, 1) := by decide +kernel
theorem dX9_year_75 : decode cX9_year 75 = .ok (.getfield 174, 3) := by decide +kernel
theorem dX9_year_78 : decode cX9_year 78 = .ok (.invokestatic 202, 3) := by decide +kernel
theorem dX9_year_81 : decode cX9_year 81 = .ok (.istore_n 3, 1) := by decide +kernel
theorem dX9_year_82 : decode cX9_year 82 = .ok (.aload_n 0, 1) := by decide +kernel
theorem dX9_year_83 : decode cX9_year 83 = .ok (.getfield 21, 3) := by decide +kernel
theorem dX9_year_86 : decode cX9_year 86 = .ok (.iload_n 2, 1) := by decide +kernel
theorem dX9_year_87 : decode cX9_year 87 = .ok (.bipush 7, 2) := by decide +kernel
theorem dX9_year_89 : decode cX9_year 89 = .ok (.irem, 1) := by decide +kernel
theorem dX9_year_90 : decode cX9_year 90 = .ok (.iload_n 3, 1) := by decide +kernel
theorem dX9_year_91 : decode cX9_year 91 = .ok (.aload_n 0, 1) := by decide +kernel
theorem dX9_year_92 : decode cX9_year 92 = .ok (.getfield 28, 3) := by decide +kernel
theorem dX9_year_95 : decode cX9_year 95 = .ok (.getfield 148, 3) := by decide +kernel
theorem dX9_year_98 : decode cX9_year 98 = .ok (.iconst 0, 1) := by decide +kernel
theorem dX9_year_99 : decode cX9_year 99 = .ok (.invokevirtual 185, 3) := by decide +kernel
theorem dX9_year_102 : decode cX9_year 102 = .ok (.iconst 1, 1) := by decide +kernel
theorem dX9_year_103 : decode cX9_year 103 = .ok (.if_icmp .ne 6, 3) := by decide +kernel
theorem dX9_year_106 : decode cX9_year 106 = .ok (.iinc 4 1, 3) := by decide +kernel
theorem dX9_year_109 : decode cX9_year 109 = .ok (.iinc 5 1, 3) := by decide +kernel
theorem dX9_year_112 : decode cX9_year 112 = .ok (.goto (-66), 3) := by decide +kernel
theorem dX9_year_115 : decode cX9_year 115 = .ok (.iload 4, 2) := by decide +kernel
theorem dX9_year_117 : decode cX9_year 117 = .ok (.ireturn, 1) := by decide +kernel
set_option maxRecDepth 20000 in
theorem ggX9_keep_X9_isSlot : GoodIn wsX9_keep wsX9_isSlot := goodIn_r _ [7] (by decide +kernel) (by decide +kernel)
set_option maxRecDepth 20000 in
theorem gX9_keep_X9_isSlot : GoodIn wsX9_keep (va_wsS RX9 291 yX9_isSlot wsX9_isSlot) := goodIn_app (goodIn_of _ (by decide +kernel)) ggX9_keep_X9_isSlot
set_option maxRecDepth 20000 in
theorem ggX9_keep_X4_saveTo : GoodIn wsX9_keep wsX4_saveTo := goodIn_r _ [12, 13, 14, 15, 16, 17, 18, 19, 20, 21, 22, 45, 46, 47, 48, 49, 50] (by decide +kernel) (by decide +kernel)
set_option maxRecDepth 20000 in
theorem gX9_keep_X4_saveTo : GoodIn wsX9_keep (wsV RX9 294 RX4 yX4_saveTo wsX4_saveTo) := goodIn_app (goodIn_of _ (by decide +kernel)) ggX9_keep_X4_saveTo
set_option maxRecDepth 20000 in
theorem ggX9_keep_X8_count : GoodIn wsX9_keep wsX8_count := goodIn_r _ [26, 27, 28, 29, 30, 31, 32, 33] (by decide +kernel) (by decide +kernel)
set_option maxRecDepth 20000 in
theorem gX9_keep_X8_count : GoodIn wsX9_keep (va_wsS RX9 116 yX8_count wsX8_count) := goodIn_app (goodIn_of _ (by decide +kernel)) ggX9_keep_X8_count
theorem dX9_keep_0 : decode cX9_keep 0 = .ok (.iload_n 1, 1) := by decide +kernel
theorem dX9_keep_1 : decode cX9_keep 1 = .ok (.invokestatic 291, 3) := by decide +kernel
theorem dX9_keep_4 : decode cX9_keep 4 = .ok (.ifCond .ne 5, 3) := by decide +kernel
theorem dX9_keep_7 : decode cX9_keep 7 = .ok (.iconst (-1), 1) := by decide +kernel
theorem dX9_keep_8 : decode cX9_keep 8 = .ok (.ireturn, 1) := by decide +kernel
theorem dX9_keep_9 : decode cX9_keep 9 = .ok (.aload_n 0, 1) := by decide +kernel
theorem dX9_keep_10 : decode cX9_keep 10 = .ok (.getfield 35, 3) := by decide +kernel
theorem dX9_keep_13 : decode cX9_keep 13 = .ok (.aload_n 0, 1) := by decide +kernel
theorem dX9_keep_14 : decode cX9_keep 14 = .ok (.getfield 60, 3) := by decide +kernel
theorem dX9_keep_17 : decode cX9_keep 17 = .ok (.iload_n 1, 1) := by decide +kernel
theorem dX9_keep_18 : decode cX9_keep 18 = .ok (.invokevirtual 294, 3) := by decide +kernel
theorem dX9_keep_21 : decode cX9_keep 21 = .ok (.aload_n 0, 1) := by decide +kernel
theorem dX9_keep_22 : decode cX9_keep 22 = .ok (.getfield 64, 3) := by decide +kernel
theorem dX9_keep_25 : decode cX9_keep 25 = .ok (.iload_n 1, 1) := by decide +kernel
theorem dX9_keep_26 : decode cX9_keep 26 = .ok (.iconst 1, 1) := by decide +kernel
theorem dX9_keep_27 : decode cX9_keep 27 = .ok (.bastore, 1) := by decide +kernel
theorem dX9_keep_28 : decode cX9_keep 28 = .ok (.aload_n 0, 1) := by decide +kernel
theorem dX9_keep_29 : decode cX9_keep 29 = .ok (.getfield 35, 3) := by decide +kernel
theorem dX9_keep_32 : decode cX9_keep 32 = .ok (.getfield 113, 3) := by decide +kernel
theorem dX9_keep_35 : decode cX9_keep 35 = .ok (.invokestatic 116, 3) := by decide +kernel
theorem dX9_keep_38 : decode cX9_keep 38 = .ok (.ireturn, 1) := by decide +kernel
set_option maxRecDepth 20000 in
theorem ggX9_again_X9_isSlot : GoodIn wsX9_again wsX9_isSlot := goodIn_r _ [8] (by decide +kernel) (by decide +kernel)
set_option maxRecDepth 20000 in
theorem gX9_again_X9_isSlot : GoodIn wsX9_again (va_wsS RX9 291 yX9_isSlot wsX9_isSlot) := goodIn_app (goodIn_of _ (by decide +kernel)) ggX9_again_X9_isSlot
set_option maxRecDepth 20000 in
theorem ggX9_again_X4_loadFrom : GoodIn wsX9_again wsX4_loadFrom := goodIn_r _ [13, 14, 15, 16, 17, 18, 19, 20, 21, 22, 23, 52, 53, 54, 55, 56, 57] (by decide +kernel) (by decide +kernel)
set_option maxRecDepth 20000 in
theorem gX9_again_X4_loadFrom : GoodIn wsX9_again (wsV RX9 297 RX4 yX4_loadFrom wsX4_loadFrom) := goodIn_app (goodIn_of _ (by decide +kernel)) ggX9_again_X4_loadFrom
set_option maxRecDepth 20000 in
theorem ggX9_again_X0_forget : GoodIn wsX9_again wsX0_forget := goodIn_r _ [28, 29, 58, 59, 60, 61] (by decide +kernel) (by decide +kernel)
set_option maxRecDepth 20000 in
theorem gX9_again_X0_forget : GoodIn wsX9_again (wsV RX9 98 RX0 yX0_forget wsX0_forget) := goodIn_app (goodIn_of _ (by decide +kernel)) ggX9_again_X0_forget
set_option maxRecDepth 20000 in
theorem ggX9_again_X8_count : GoodIn wsX9_again wsX8_count := goodIn_r _ [33, 34, 35, 36, 37, 38, 39, 40] (by decide +kernel) (by decide +kernel)
set_option maxRecDepth 20000 in
theorem gX9_again_X8_count : GoodIn wsX9_again (va_wsS RX9 116 yX8_count wsX8_count) := goodIn_app (goodIn_of _ (by decide +kernel)) ggX9_again_X8_count
theorem dX9_again_0 : decode cX9_again 0 = .ok (.iload_n 1, 1) := by decide +kernel
theorem dX9_again_1 : decode cX9_again 1 = .ok (.invokestatic 291, 3) := by decide +kernel
theorem dX9_again_4 : decode cX9_again 4 = .ok (.ifCond .ne 5, 3) := by decide +kernel
theorem dX9_again_7 : decode cX9_again 7 = .ok (.iconst (-1), 1) := by decide +kernel
theorem dX9_again_8 : decode cX9_again 8 = .ok (.ireturn, 1) := by decide +kernel
theorem dX9_again_9 : decode cX9_again 9 = .ok (.aload_n 0, 1) := by decide +kernel
theorem dX9_again_10 : decode cX9_again 10 = .ok (.getfield 64, 3) := by decide +kernel
theorem dX9_again_13 : decode cX9_again 13 = .ok (.iload_n 1, 1) := by decide +kernel
theorem dX9_again_14 : decode cX9_again 14 = .ok (.baload, 1) := by decide +kernel
theorem dX9_again_15 : decode cX9_again 15 = .ok (.ifCond .ne 6, 3) := by decide +kernel
theorem dX9_again_18 : decode cX9_again 18 = .ok (.bipush (-3), 2) := by decide +kernel
theorem dX9_again_20 : decode cX9_again 20 = .ok (.ireturn, 1) := by decide +kernel
theorem dX9_again_21 : decode cX9_again 21 = .ok (.aload_n 0, 1) := by decide +kernel
theorem dX9_again_22 : decode cX9_again 22 = .ok (.getfield 35, 3) := by decide +kernel
theorem dX9_again_25 : decode cX9_again 25 = .ok (.aload_n 0, 1) := by decide +kernel
theorem dX9_again_26 : decode cX9_again 26 = .ok (.getfield 60, 3) := by decide +kernel
theorem dX9_again_29 : decode cX9_again 29 = .ok (.iload_n 1, 1) := by decide +kernel
theorem dX9_again_30 : decode cX9_again 30 = .ok (.invokevirtual 297, 3) := by decide +kernel
theorem dX9_again_33 : decode cX9_again 33 = .ok (.aload_n 0, 1) := by decide +kernel
theorem dX9_again_34 : decode cX9_again 34 = .ok (.getfield 42, 3) := by decide +kernel
theorem dX9_again_37 : decode cX9_again 37 = .ok (.invokevirtual 98, 3) := by decide +kernel
theorem dX9_again_40 : decode cX9_again 40 = .ok (.aload_n 0, 1) := by decide +kernel
theorem dX9_again_41 : decode cX9_again 41 = .ok (.getfield 35, 3) := by decide +kernel
theorem dX9_again_44 : decode cX9_again 44 = .ok (.getfield 113, 3) := by decide +kernel
theorem dX9_again_47 : decode cX9_again 47 = .ok (.invokestatic 116, 3) := by decide +kernel
theorem dX9_again_50 : decode cX9_again 50 = .ok (.ireturn, 1) := by decide +kernel
set_option maxRecDepth 20000 in
theorem ggX9_hasSlip_X5_firstFault : GoodIn wsX9_hasSlip wsX5_firstFault := goodIn_r _ [7, 8, 9, 10, 11, 12, 13, 14, 15, 16, 17, 6, 18, 19, 20, 21, 22, 23, 24, 25, 26, 27, 28, 29, 30, 31, 32, 33, 34, 35, 36, 37, 38, 50, 51, 52, 53, 54, 55, 56, 57, 58] (by decide +kernel) (by decide +kernel)
set_option maxRecDepth 20000 in
theorem gX9_hasSlip_X5_firstFault : GoodIn wsX9_hasSlip (wsV RX9 107 RX5 yX5_firstFault wsX5_firstFault) := goodIn_app (goodIn_of _ (by decide +kernel)) ggX9_hasSlip_X5_firstFault
theorem dX9_hasSlip_0 : decode cX9_hasSlip 0 = .ok (.aload_n 0, 1) := by decide +kernel
theorem dX9_hasSlip_1 : decode cX9_hasSlip 1 = .ok (.getfield 21, 3) := by decide +kernel
theorem dX9_hasSlip_4 : decode cX9_hasSlip 4 = .ok (.aload_n 0, 1) := by decide +kernel
theorem dX9_hasSlip_5 : decode cX9_hasSlip 5 = .ok (.getfield 28, 3) := by decide +kernel
theorem dX9_hasSlip_8 : decode cX9_hasSlip 8 = .ok (.invokevirtual 107, 3) := by decide +kernel
theorem dX9_hasSlip_11 : decode cX9_hasSlip 11 = .ok (.bipush (-9), 2) := by decide +kernel
theorem dX9_hasSlip_13 : decode cX9_hasSlip 13 = .ok (.if_icmp .eq 7, 3) := by decide +kernel
theorem dX9_hasSlip_16 : decode cX9_hasSlip 16 = .ok (.iconst 1, 1) := by decide +kernel
theorem dX9_hasSlip_17 : decode cX9_hasSlip 17 = .ok (.goto 4, 3) := by decide +kernel
theorem dX9_hasSlip_20 : decode cX9_hasSlip 20 = .ok (.iconst 0, 1) := by decide +kernel
theorem dX9_hasSlip_21 : decode cX9_hasSlip 21 = .ok (.ireturn, 1) := by decide +kernel
theorem dX9_isSlot_0 : decode cX9_isSlot 0 = .ok (.iload_n 0, 1) := by decide +kernel
theorem dX9_isSlot_1 : decode cX9_isSlot 1 = .ok (.ifCond .lt 12, 3) := by decide +kernel
theorem dX9_isSlot_4 : decode cX9_isSlot 4 = .ok (.iload_n 0, 1) := by decide +kernel
theorem dX9_isSlot_5 : decode cX9_isSlot 5 = .ok (.iconst 2, 1) := by decide +kernel
theorem dX9_isSlot_6 : decode cX9_isSlot 6 = .ok (.if_icmp .ge 7, 3) := by decide +kernel
theorem dX9_isSlot_9 : decode cX9_isSlot 9 = .ok (.iconst 1, 1) := by decide +kernel
theorem dX9_isSlot_10 : decode cX9_isSlot 10 = .ok (.goto 4, 3) := by decide +kernel
theorem dX9_isSlot_13 : decode cX9_isSlot 13 = .ok (.iconst 0, 1) := by decide +kernel
theorem dX9_isSlot_14 : decode cX9_isSlot 14 = .ok (.ireturn, 1) := by decide +kernel
theorem dX9_isWeekday_0 : decode cX9_isWeekday 0 = .ok (.iload_n 0, 1) := by decide +kernel
theorem dX9_isWeekday_1 : decode cX9_isWeekday 1 = .ok (.ifCond .lt 13, 3) := by decide +kernel
theorem dX9_isWeekday_4 : decode cX9_isWeekday 4 = .ok (.iload_n 0, 1) := by decide +kernel
theorem dX9_isWeekday_5 : decode cX9_isWeekday 5 = .ok (.bipush 7, 2) := by decide +kernel
theorem dX9_isWeekday_7 : decode cX9_isWeekday 7 = .ok (.if_icmp .ge 7, 3) := by decide +kernel
theorem dX9_isWeekday_10 : decode cX9_isWeekday 10 = .ok (.iconst 1, 1) := by decide +kernel
theorem dX9_isWeekday_11 : decode cX9_isWeekday 11 = .ok (.goto 4, 3) := by decide +kernel
theorem dX9_isWeekday_14 : decode cX9_isWeekday 14 = .ok (.iconst 0, 1) := by decide +kernel
theorem dX9_isWeekday_15 : decode cX9_isWeekday 15 = .ok (.ireturn, 1) := by decide +kernel
theorem dX9_isAnswer_0 : decode cX9_isAnswer 0 = .ok (.iload_n 0, 1) := by decide +kernel
theorem dX9_isAnswer_1 : decode cX9_isAnswer 1 = .ok (.ifCond .lt 12, 3) := by decide +kernel
theorem dX9_isAnswer_4 : decode cX9_isAnswer 4 = .ok (.iload_n 0, 1) := by decide +kernel
theorem dX9_isAnswer_5 : decode cX9_isAnswer 5 = .ok (.iconst 2, 1) := by decide +kernel
theorem dX9_isAnswer_6 : decode cX9_isAnswer 6 = .ok (.if_icmp .gt 7, 3) := by decide +kernel
theorem dX9_isAnswer_9 : decode cX9_isAnswer 9 = .ok (.iconst 1, 1) := by decide +kernel
theorem dX9_isAnswer_10 : decode cX9_isAnswer 10 = .ok (.goto 4, 3) := by decide +kernel
theorem dX9_isAnswer_13 : decode cX9_isAnswer 13 = .ok (.iconst 0, 1) := by decide +kernel
theorem dX9_isAnswer_14 : decode cX9_isAnswer 14 = .ok (.ireturn, 1) := by decide +kernel
theorem dX9_told_0 : decode cX9_told 0 = .ok (.iload_n 0, 1) := by decide +kernel
theorem dX9_told_1 : decode cX9_told 1 = .ok (.iconst 2, 1) := by decide +kernel
theorem dX9_told_2 : decode cX9_told 2 = .ok (.if_icmp .ne 8, 3) := by decide +kernel
theorem dX9_told_5 : decode cX9_told 5 = .ok (.bipush (-9), 2) := by decide +kernel
theorem dX9_told_7 : decode cX9_told 7 = .ok (.goto 4, 3) := by decide +kernel
theorem dX9_told_10 : decode cX9_told 10 = .ok (.iload_n 0, 1) := by decide +kernel
theorem dX9_told_11 : decode cX9_told 11 = .ok (.ireturn, 1) := by decide +kernel
set_option maxRecDepth 20000 in
theorem ggX9_isSoInAll_X9_casesWithFact : GoodIn wsX9_isSoInAll wsX9_casesWithFact := goodIn_r _ [4, 5] (by decide +kernel) (by decide +kernel)
set_option maxRecDepth 20000 in
theorem gX9_isSoInAll_X9_casesWithFact : GoodIn wsX9_isSoInAll (va_wsS RX9 300 yX9_casesWithFact wsX9_casesWithFact) := goodIn_app (goodIn_of _ (by decide +kernel)) ggX9_isSoInAll_X9_casesWithFact
theorem dX9_isSoInAll_0 : decode cX9_isSoInAll 0 = .ok (.iload_n 0, 1) := by decide +kernel
theorem dX9_isSoInAll_1 : decode cX9_isSoInAll 1 = .ok (.iload_n 1, 1) := by decide +kernel
theorem dX9_isSoInAll_2 : decode cX9_isSoInAll 2 = .ok (.invokestatic 300, 3) := by decide +kernel
theorem dX9_isSoInAll_5 : decode cX9_isSoInAll 5 = .ok (.iconst (-1), 1) := by decide +kernel
theorem dX9_isSoInAll_6 : decode cX9_isSoInAll 6 = .ok (.ixor, 1) := by decide +kernel
theorem dX9_isSoInAll_7 : decode cX9_isSoInAll 7 = .ok (.iand, 1) := by decide +kernel
theorem dX9_isSoInAll_8 : decode cX9_isSoInAll 8 = .ok (.ifCond .ne 7, 3) := by decide +kernel
theorem dX9_isSoInAll_11 : decode cX9_isSoInAll 11 = .ok (.iconst 1, 1) := by decide +kernel
theorem dX9_isSoInAll_12 : decode cX9_isSoInAll 12 = .ok (.goto 4, 3) := by decide +kernel
theorem dX9_isSoInAll_15 : decode cX9_isSoInAll 15 = .ok (.iconst 0, 1) := by decide +kernel
theorem dX9_isSoInAll_16 : decode cX9_isSoInAll 16 = .ok (.ireturn, 1) := by decide +kernel
set_option maxRecDepth 20000 in
theorem ggX9_isSoInNone_X9_casesWithFact : GoodIn wsX9_isSoInNone wsX9_casesWithFact := goodIn_r _ [4, 5] (by decide +kernel) (by decide +kernel)
set_option maxRecDepth 20000 in
theorem gX9_isSoInNone_X9_casesWithFact : GoodIn wsX9_isSoInNone (va_wsS RX9 300 yX9_casesWithFact wsX9_casesWithFact) := goodIn_app (goodIn_of _ (by decide +kernel)) ggX9_isSoInNone_X9_casesWithFact
theorem dX9_isSoInNone_0 : decode cX9_isSoInNone 0 = .ok (.iload_n 0, 1) := by decide +kernel
theorem dX9_isSoInNone_1 : decode cX9_isSoInNone 1 = .ok (.iload_n 1, 1) := by decide +kernel
theorem dX9_isSoInNone_2 : decode cX9_isSoInNone 2 = .ok (.invokestatic 300, 3) := by decide +kernel
theorem dX9_isSoInNone_5 : decode cX9_isSoInNone 5 = .ok (.iand, 1) := by decide +kernel
theorem dX9_isSoInNone_6 : decode cX9_isSoInNone 6 = .ok (.ifCond .ne 7, 3) := by decide +kernel
theorem dX9_isSoInNone_9 : decode cX9_isSoInNone 9 = .ok (.iconst 1, 1) := by decide +kernel
theorem dX9_isSoInNone_10 : decode cX9_isSoInNone 10 = .ok (.goto 4, 3) := by decide +kernel
theorem dX9_isSoInNone_13 : decode cX9_isSoInNone 13 = .ok (.iconst 0, 1) := by decide +kernel
theorem dX9_isSoInNone_14 : decode cX9_isSoInNone 14 = .ok (.ireturn, 1) := by decide +kernel
theorem dX9_casesWithFact_0 : decode cX9_casesWithFact 0 = .ok (.iload_n 0, 1) := by decide +kernel
theorem dX9_casesWithFact_1 : decode cX9_casesWithFact 1 = .ok (.ifCond .lt 16, 3) := by decide +kernel
theorem dX9_casesWithFact_4 : decode cX9_casesWithFact 4 = .ok (.iload_n 0, 1) := by decide +kernel
theorem dX9_casesWithFact_5 : decode cX9_casesWithFact 5 = .ok (.iconst 5, 1) := by decide +kernel
theorem dX9_casesWithFact_6 : decode cX9_casesWithFact 6 = .ok (.if_icmp .ge 11, 3) := by decide +kernel
theorem dX9_casesWithFact_9 : decode cX9_casesWithFact 9 = .ok (.getstatic 303, 3) := by decide +kernel
theorem dX9_casesWithFact_12 : decode cX9_casesWithFact 12 = .ok (.iload_n 0, 1) := by decide +kernel
theorem dX9_casesWithFact_13 : decode cX9_casesWithFact 13 = .ok (.iaload, 1) := by decide +kernel
theorem dX9_casesWithFact_14 : decode cX9_casesWithFact 14 = .ok (.goto 4, 3) := by decide +kernel
theorem dX9_casesWithFact_17 : decode cX9_casesWithFact 17 = .ok (.iconst 0, 1) := by decide +kernel
theorem dX9_casesWithFact_18 : decode cX9_casesWithFact 18 = .ok (.ireturn, 1) := by decide +kernel
theorem dX9_everyCaseIf_0 : decode cX9_everyCaseIf 0 = .ok (.iload_n 0, 1) := by decide +kernel
theorem dX9_everyCaseIf_1 : decode cX9_everyCaseIf 1 = .ok (.ifCond .eq 7, 3) := by decide +kernel
theorem dX9_everyCaseIf_4 : decode cX9_everyCaseIf 4 = .ok (.iconst (-1), 1) := by decide +kernel
theorem dX9_everyCaseIf_5 : decode cX9_everyCaseIf 5 = .ok (.goto 4, 3) := by decide +kernel
theorem dX9_everyCaseIf_8 : decode cX9_everyCaseIf 8 = .ok (.iconst 0, 1) := by decide +kernel
theorem dX9_everyCaseIf_9 : decode cX9_everyCaseIf 9 = .ok (.ireturn, 1) := by decide +kernel
theorem dX9_casesGiving_0 : decode cX9_casesGiving 0 = .ok (.iload_n 3, 1) := by decide +kernel
theorem dX9_casesGiving_1 : decode cX9_casesGiving 1 = .ok (.ifCond .eq 7, 3) := by decide +kernel
theorem dX9_casesGiving_4 : decode cX9_casesGiving 4 = .ok (.iload_n 1, 1) := by decide +kernel
theorem dX9_casesGiving_5 : decode cX9_casesGiving 5 = .ok (.goto 6, 3) := by decide +kernel
theorem dX9_casesGiving_8 : decode cX9_casesGiving 8 = .ok (.iload_n 1, 1) := by decide +kernel
theorem dX9_casesGiving_9 : decode cX9_casesGiving 9 = .ok (.iconst (-1), 1) := by decide +kernel
theorem dX9_casesGiving_10 : decode cX9_casesGiving 10 = .ok (.ixor, 1) := by decide +kernel
theorem dX9_casesGiving_11 : decode cX9_casesGiving 11 = .ok (.istore 4, 2) := by decide +kernel
theorem dX9_casesGiving_13 : decode cX9_casesGiving 13 = .ok (.iload_n 0, 1) := by decide +kernel
theorem dX9_casesGiving_14 : decode cX9_casesGiving 14 = .ok (.iconst 1, 1) := by decide +kernel
theorem dX9_casesGiving_15 : decode cX9_casesGiving 15 = .ok (.if_icmp .ne 6, 3) := by decide +kernel
theorem dX9_casesGiving_18 : decode cX9_casesGiving 18 = .ok (.iload 4, 2) := by decide +kernel
theorem dX9_casesGiving_20 : decode cX9_casesGiving 20 = .ok (.ireturn, 1) := by decide +kernel
theorem dX9_casesGiving_21 : decode cX9_casesGiving 21 = .ok (.iload 4, 2) := by decide +kernel
theorem dX9_casesGiving_23 : decode cX9_casesGiving 23 = .ok (.iconst (-1), 1) := by decide +kernel
theorem dX9_casesGiving_24 : decode cX9_casesGiving 24 = .ok (.ixor, 1) := by decide +kernel
theorem dX9_casesGiving_25 : decode cX9_casesGiving 25 = .ok (.iload_n 3, 1) := by decide +kernel
theorem dX9_casesGiving_26 : decode cX9_casesGiving 26 = .ok (.ifCond .eq 9, 3) := by decide +kernel
theorem dX9_casesGiving_29 : decode cX9_casesGiving 29 = .ok (.iload_n 2, 1) := by decide +kernel
theorem dX9_casesGiving_30 : decode cX9_casesGiving 30 = .ok (.iconst (-1), 1) := by decide +kernel
theorem dX9_casesGiving_31 : decode cX9_casesGiving 31 = .ok (.ixor, 1) := by decide +kernel
theorem dX9_casesGiving_32 : decode cX9_casesGiving 32 = .ok (.goto 4, 3) := by decide +kernel
theorem dX9_casesGiving_35 : decode cX9_casesGiving 35 = .ok (.iload_n 2, 1) := by decide +kernel
theorem dX9_casesGiving_36 : decode cX9_casesGiving 36 = .ok (.iand, 1) := by decide +kernel
theorem dX9_casesGiving_37 : decode cX9_casesGiving 37 = .ok (.istore 5, 2) := by decide +kernel
theorem dX9_casesGiving_39 : decode cX9_casesGiving 39 = .ok (.iload_n 0, 1) := by decide +kernel
theorem dX9_casesGiving_40 : decode cX9_casesGiving 40 = .ok (.ifCond .ne 8, 3) := by decide +kernel
theorem dX9_casesGiving_43 : decode cX9_casesGiving 43 = .ok (.iload 5, 2) := by decide +kernel
theorem dX9_casesGiving_45 : decode cX9_casesGiving 45 = .ok (.goto 10, 3) := by decide +kernel
theorem dX9_casesGiving_48 : decode cX9_casesGiving 48 = .ok (.iload 4, 2) := by decide +kernel
theorem dX9_casesGiving_50 : decode cX9_casesGiving 50 = .ok (.iload 5, 2) := by decide +kernel
theorem dX9_casesGiving_52 : decode cX9_casesGiving 52 = .ok (.ior, 1) := by decide +kernel
theorem dX9_casesGiving_53 : decode cX9_casesGiving 53 = .ok (.iconst (-1), 1) := by decide +kernel
theorem dX9_casesGiving_54 : decode cX9_casesGiving 54 = .ok (.ixor, 1) := by decide +kernel
theorem dX9_casesGiving_55 : decode cX9_casesGiving 55 = .ok (.ireturn, 1) := by decide +kernel
theorem dX9_answerAt_0 : decode cX9_answerAt 0 = .ok (.iload_n 1, 1) := by decide +kernel
theorem dX9_answerAt_1 : decode cX9_answerAt 1 = .ok (.iload_n 0, 1) := by decide +kernel
theorem dX9_answerAt_2 : decode cX9_answerAt 2 = .ok (.iushr, 1) := by decide +kernel
theorem dX9_answerAt_3 : decode cX9_answerAt 3 = .ok (.iconst 1, 1) := by decide +kernel
theorem dX9_answerAt_4 : decode cX9_answerAt 4 = .ok (.iand, 1) := by decide +kernel
theorem dX9_answerAt_5 : decode cX9_answerAt 5 = .ok (.iconst 1, 1) := by decide +kernel
theorem dX9_answerAt_6 : decode cX9_answerAt 6 = .ok (.if_icmp .ne 5, 3) := by decide +kernel
theorem dX9_answerAt_9 : decode cX9_answerAt 9 = .ok (.iconst 1, 1) := by decide +kernel
theorem dX9_answerAt_10 : decode cX9_answerAt 10 = .ok (.ireturn, 1) := by decide +kernel
theorem dX9_answerAt_11 : decode cX9_answerAt 11 = .ok (.iload_n 2, 1) := by decide +kernel
theorem dX9_answerAt_12 : decode cX9_answerAt 12 = .ok (.iload_n 0, 1) := by decide +kernel
theorem dX9_answerAt_13 : decode cX9_answerAt 13 = .ok (.iushr, 1) := by decide +kernel
theorem dX9_answerAt_14 : decode cX9_answerAt 14 = .ok (.iconst 1, 1) := by decide +kernel
theorem dX9_answerAt_15 : decode cX9_answerAt 15 = .ok (.iand, 1) := by decide +kernel
theorem dX9_answerAt_16 : decode cX9_answerAt 16 = .ok (.iconst 1, 1) := by decide +kernel
theorem dX9_answerAt_17 : decode cX9_answerAt 17 = .ok (.if_icmp .ne 7, 3) := by decide +kernel
theorem dX9_answerAt_20 : decode cX9_answerAt 20 = .ok (.iconst 0, 1) := by decide +kernel
theorem dX9_answerAt_21 : decode cX9_answerAt 21 = .ok (.goto 4, 3) := by decide +kernel
theorem dX9_answerAt_24 : decode cX9_answerAt 24 = .ok (.iconst 2, 1) := by decide +kernel
theorem dX9_answerAt_25 : decode cX9_answerAt 25 = .ok (.ireturn, 1) := by decide +kernel
theorem dX9_nextSeed_0 : decode cX9_nextSeed 0 = .ok (.lload_n 0, 1) := by decide +kernel
theorem dX9_nextSeed_1 : decode cX9_nextSeed 1 = .ok (.ldc2_w 306, 3) := by decide +kernel
theorem dX9_nextSeed_4 : decode cX9_nextSeed 4 = .ok (.lmul, 1) := by decide +kernel
theorem dX9_nextSeed_5 : decode cX9_nextSeed 5 = .ok (.ldc2_w 308, 3) := by decide +kernel
theorem dX9_nextSeed_8 : decode cX9_nextSeed 8 = .ok (.ladd, 1) := by decide +kernel
theorem dX9_nextSeed_9 : decode cX9_nextSeed 9 = .ok (.lreturn, 1) := by decide +kernel
theorem dX9_drawnDay_0 : decode cX9_drawnDay 0 = .ok (.lload_n 0, 1) := by decide +kernel
theorem dX9_drawnDay_1 : decode cX9_drawnDay 1 = .ok (.bipush 33, 2) := by decide +kernel
theorem dX9_drawnDay_3 : decode cX9_drawnDay 3 = .ok (.lushr, 1) := by decide +kernel
theorem dX9_drawnDay_4 : decode cX9_drawnDay 4 = .ok (.ldc2_w 310, 3) := by decide +kernel
theorem dX9_drawnDay_7 : decode cX9_drawnDay 7 = .ok (.lrem, 1) := by decide +kernel
theorem dX9_drawnDay_8 : decode cX9_drawnDay 8 = .ok (.l2i, 1) := by decide +kernel
theorem dX9_drawnDay_9 : decode cX9_drawnDay 9 = .ok (.ireturn, 1) := by decide +kernel
theorem dX9_greatestDivisor_0 : decode cX9_greatestDivisor 0 = .ok (.iload_n 1, 1) := by decide +kernel
theorem dX9_greatestDivisor_1 : decode cX9_greatestDivisor 1 = .ok (.istore_n 2, 1) := by decide +kernel
theorem dX9_greatestDivisor_2 : decode cX9_greatestDivisor 2 = .ok (.iload_n 2, 1) := by decide +kernel
theorem dX9_greatestDivisor_3 : decode cX9_greatestDivisor 3 = .ok (.iconst 1, 1) := by decide +kernel
theorem dX9_greatestDivisor_4 : decode cX9_greatestDivisor 4 = .ok (.if_icmp .le 23, 3) := by decide +kernel
theorem dX9_greatestDivisor_7 : decode cX9_greatestDivisor 7 = .ok (.iload_n 0, 1) := by decide +kernel
theorem dX9_greatestDivisor_8 : decode cX9_greatestDivisor 8 = .ok (.iload_n 2, 1) := by decide +kernel
theorem dX9_greatestDivisor_9 : decode cX9_greatestDivisor 9 = .ok (.irem, 1) := by decide +kernel
theorem dX9_greatestDivisor_10 : decode cX9_greatestDivisor 10 = .ok (.ifCond .ne 11, 3) := by decide +kernel
theorem dX9_greatestDivisor_13 : decode cX9_greatestDivisor 13 = .ok (.iload_n 1, 1) := by decide +kernel
theorem dX9_greatestDivisor_14 : decode cX9_greatestDivisor 14 = .ok (.iload_n 2, 1) := by decide +kernel
theorem dX9_greatestDivisor_15 : decode cX9_greatestDivisor 15 = .ok (.irem, 1) := by decide +kernel
theorem dX9_greatestDivisor_16 : decode cX9_greatestDivisor 16 = .ok (.ifCond .ne 5, 3) := by decide +kernel
theorem dX9_greatestDivisor_19 : decode cX9_greatestDivisor 19 = .ok (.iload_n 2, 1) := by decide +kernel
theorem dX9_greatestDivisor_20 : decode cX9_greatestDivisor 20 = .ok (.ireturn, 1) := by decide +kernel
theorem dX9_greatestDivisor_21 : decode cX9_greatestDivisor 21 = .ok (.iinc 2 (-1), 3) := by decide +kernel
theorem dX9_greatestDivisor_24 : decode cX9_greatestDivisor 24 = .ok (.goto (-22), 3) := by decide +kernel
theorem dX9_greatestDivisor_27 : decode cX9_greatestDivisor 27 = .ok (.iconst 1, 1) := by decide +kernel
theorem dX9_greatestDivisor_28 : decode cX9_greatestDivisor 28 = .ok (.ireturn, 1) := by decide +kernel
set_option maxRecDepth 20000 in
theorem ggX10_init_X10_layAnswers : GoodIn wsX10_init wsX10_layAnswers := goodIn_r _ [28, 19, 17, 18, 29, 30, 31, 27, 32, 33, 34, 35, 36, 37, 38, 39, 40, 41, 6, 20, 42, 43, 44, 45, 46, 47, 48, 49, 50, 51, 52, 53, 54, 55, 56, 57, 58, 59, 60, 61, 62, 63, 64, 65, 66, 67, 68, 69, 70, 71, 72, 73, 74, 75, 76, 77, 78, 79, 80, 81, 82, 83, 84] (by decide +kernel) (by decide +kernel)
set_option maxRecDepth 20000 in
theorem gX10_init_X10_layAnswers : GoodIn wsX10_init (wsV RX10 63 RX10 yX10_layAnswers wsX10_layAnswers) := goodIn_app (goodIn_of _ (by decide +kernel)) ggX10_init_X10_layAnswers
theorem dX10_init_0 : decode cX10_init 0 = .ok (.aload_n 0, 1) := by decide +kernel
theorem dX10_init_1 : decode cX10_init 1 = .ok (.invokespecial 1, 3) := by decide +kernel
theorem dX10_init_4 : decode cX10_init 4 = .ok (.aload_n 0, 1) := by decide +kernel
theorem dX10_init_5 : decode cX10_init 5 = .ok (.bipush 24, 2) := by decide +kernel
theorem dX10_init_7 : decode cX10_init 7 = .ok (.newarray .int, 2) := by decide +kernel
theorem dX10_init_9 : decode cX10_init 9 = .ok (.putfield 7, 3) := by decide +kernel
theorem dX10_init_12 : decode cX10_init 12 = .ok (.aload_n 0, 1) := by decide +kernel
theorem dX10_init_13 : decode cX10_init 13 = .ok (.bipush 16, 2) := by decide +kernel
theorem dX10_init_15 : decode cX10_init 15 = .ok (.newarray .int, 2) := by decide +kernel
theorem dX10_init_17 : decode cX10_init 17 = .ok (.putfield 13, 3) := by decide +kernel
theorem dX10_init_20 : decode cX10_init 20 = .ok (.aload_n 0, 1) := by decide +kernel
theorem dX10_init_21 : decode cX10_init 21 = .ok (.bipush 12, 2) := by decide +kernel
theorem dX10_init_23 : decode cX10_init 23 = .ok (.newarray .int, 2) := by decide +kernel
theorem dX10_init_25 : decode cX10_init 25 = .ok (.putfield 16, 3) := by decide +kernel
theorem dX10_init_28 : decode cX10_init 28 = .ok (.aload_n 0, 1) := by decide +kernel
theorem dX10_init_29 : decode cX10_init 29 = .ok (.bipush 120, 2) := by decide +kernel
theorem dX10_init_31 : decode cX10_init 31 = .ok (.newarray .int, 2) := by decide +kernel
theorem dX10_init_33 : decode cX10_init 33 = .ok (.putfield 19, 3) := by decide +kernel
theorem dX10_init_36 : decode cX10_init 36 = .ok (.aload_n 0, 1) := by decide +kernel
theorem dX10_init_37 : decode cX10_init 37 = .ok (.bipush 10, 2) := by decide +kernel
theorem dX10_init_39 : decode cX10_init 39 = .ok (.newarray .long, 2) := by decide +kernel
theorem dX10_init_41 : decode cX10_init 41 = .ok (.putfield 22, 3) := by decide +kernel
theorem dX10_init_44 : decode cX10_init 44 = .ok (.aload_n 0, 1) := by decide +kernel
theorem dX10_init_45 : decode cX10_init 45 = .ok (.bipush 24, 2) := by decide +kernel
theorem dX10_init_47 : decode cX10_init 47 = .ok (.newarray .int, 2) := by decide +kernel
theorem dX10_init_49 : decode cX10_init 49 = .ok (.putfield 26, 3) := by decide +kernel
theorem dX10_init_52 : decode cX10_init 52 = .ok (.aload_n 0, 1) := by decide +kernel
theorem dX10_init_53 : decode cX10_init 53 = .ok (.iconst 2, 1) := by decide +kernel
theorem dX10_init_54 : decode cX10_init 54 = .ok (.newarray .boolean, 2) := by decide +kernel
theorem dX10_init_56 : decode cX10_init 56 = .ok (.putfield 29, 3) := by decide +kernel
theorem dX10_init_59 : decode cX10_init 59 = .ok (.aload_n 0, 1) := by decide +kernel
theorem dX10_init_60 : decode cX10_init 60 = .ok (.bipush 6, 2) := by decide +kernel
theorem dX10_init_62 : decode cX10_init 62 = .ok (.newarray .int, 2) := by decide +kernel
theorem dX10_init_64 : decode cX10_init 64 = .ok (.putfield 33, 3) := by decide +kernel
theorem dX10_init_67 : decode cX10_init 67 = .ok (.aload_n 0, 1) := by decide +kernel
theorem dX10_init_68 : decode cX10_init 68 = .ok (.bipush 6, 2) := by decide +kernel
theorem dX10_init_70 : decode cX10_init 70 = .ok (.newarray .int, 2) := by decide +kernel
theorem dX10_init_72 : decode cX10_init 72 = .ok (.putfield 36, 3) := by decide +kernel
theorem dX10_init_75 : decode cX10_init 75 = .ok (.aload_n 0, 1) := by decide +kernel
theorem dX10_init_76 : decode cX10_init 76 = .ok (.bipush 6, 2) := by decide +kernel
theorem dX10_init_78 : decode cX10_init 78 = .ok (.newarray .boolean, 2) := by decide +kernel
theorem dX10_init_80 : decode cX10_init 80 = .ok (.putfield 39, 3) := by decide +kernel
theorem dX10_init_83 : decode cX10_init 83 = .ok (.aload_n 0, 1) := by decide +kernel
theorem dX10_init_84 : decode cX10_init 84 = .ok (.sipush 931, 3) := by decide +kernel
theorem dX10_init_87 : decode cX10_init 87 = .ok (.newarray .int, 2) := by decide +kernel
theorem dX10_init_89 : decode cX10_init 89 = .ok (.putfield 42, 3) := by decide +kernel
theorem dX10_init_92 : decode cX10_init 92 = .ok (.aload_n 0, 1) := by decide +kernel
theorem dX10_init_93 : decode cX10_init 93 = .ok (.sipush 931, 3) := by decide +kernel
theorem dX10_init_96 : decode cX10_init 96 = .ok (.newarray .int, 2) := by decide +kernel
theorem dX10_init_98 : decode cX10_init 98 = .ok (.putfield 45, 3) := by decide +kernel
theorem dX10_init_101 : decode cX10_init 101 = .ok (.aload_n 0, 1) := by decide +kernel
theorem dX10_init_102 : decode cX10_init 102 = .ok (.iconst 5, 1) := by decide +kernel
theorem dX10_init_103 : decode cX10_init 103 = .ok (.newarray .int, 2) := by decide +kernel
theorem dX10_init_105 : decode cX10_init 105 = .ok (.putfield 48, 3) := by decide +kernel
theorem dX10_init_108 : decode cX10_init 108 = .ok (.aload_n 0, 1) := by decide +kernel
theorem dX10_init_109 : decode cX10_init 109 = .ok (.bipush 17, 2) := by decide +kernel
theorem dX10_init_111 : decode cX10_init 111 = .ok (.newarray .boolean, 2) := by decide +kernel
theorem dX10_init_113 : decode cX10_init 113 = .ok (.putfield 51, 3) := by decide +kernel
theorem dX10_init_116 : decode cX10_init 116 = .ok (.aload_n 0, 1) := by decide +kernel
theorem dX10_init_117 : decode cX10_init 117 = .ok (.bipush 7, 2) := by decide +kernel
theorem dX10_init_119 : decode cX10_init 119 = .ok (.newarray .int, 2) := by decide +kernel
theorem dX10_init_121 : decode cX10_init 121 = .ok (.putfield 54, 3) := by decide +kernel
theorem dX10_init_124 : decode cX10_init 124 = .ok (.aload_n 0, 1) := by decide +kernel
theorem dX10_init_125 : decode cX10_init 125 = .ok (.bipush 7, 2) := by decide +kernel
theorem dX10_init_127 : decode cX10_init 127 = .ok (.newarray .int, 2) := by decide +kernel
theorem dX10_init_129 : decode cX10_init 129 = .ok (.putfield 57, 3) := by decide +kernel
theorem dX10_init_132 : decode cX10_init 132 = .ok (.aload_n 0, 1) := by decide +kernel
theorem dX10_init_133 : decode cX10_init 133 = .ok (.bipush 7, 2) := by decide +kernel
theorem dX10_init_135 : decode cX10_init 135 = .ok (.newarray .int, 2) := by decide +kernel
theorem dX10_init_137 : decode cX10_init 137 = .ok (.putfield 60, 3) := by decide +kernel
theorem dX10_init_140 : decode cX10_init 140 = .ok (.iconst 0, 1) := by decide +kernel
theorem dX10_init_141 : decode cX10_init 141 = .ok (.istore_n 1, 1) := by decide +kernel
theorem dX10_init_142 : decode cX10_init 142 = .ok (.iload_n 1, 1) := by decide +kernel
theorem dX10_init_143 : decode cX10_init 143 = .ok (.bipush 7, 2) := by decide +kernel
theorem dX10_init_145 : decode cX10_init 145 = .ok (.if_icmp .ge 16, 3) := by decide +kernel
theorem dX10_init_148 : decode cX10_init 148 = .ok (.aload_n 0, 1) := by decide +kernel
theorem dX10_init_149 : decode cX10_init 149 = .ok (.getfield 16, 3) := by decide +kernel
theorem dX10_init_152 : decode cX10_init 152 = .ok (.iload_n 1, 1) := by decide +kernel
theorem dX10_init_153 : decode cX10_init 153 = .ok (.iconst 1, 1) := by decide +kernel
theorem dX10_init_154 : decode cX10_init 154 = .ok (.iastore, 1) := by decide +kernel
theorem dX10_init_155 : decode cX10_init 155 = .ok (.iinc 1 1, 3) := by decide +kernel
theorem dX10_init_158 : decode cX10_init 158 = .ok (.goto (-16), 3) := by decide +kernel
theorem dX10_init_161 : decode cX10_init 161 = .ok (.aload_n 0, 1) := by decide +kernel
theorem dX10_init_162 : decode cX10_init 162 = .ok (.invokevirtual 63, 3) := by decide +kernel
theorem dX10_init_165 : decode cX10_init 165 = .ok (.return_, 1) := by decide +kernel
theorem dX10_in_0 : decode cX10_in 0 = .ok (.lload_n 0, 1) := by decide +kernel
theorem dX10_in_1 : decode cX10_in 1 = .ok (.lload_n 2, 1) := by decide +kernel
theorem dX10_in_2 : decode cX10_in 2 = .ok (.lcmp, 1) := by decide +kernel
theorem dX10_in_3 : decode cX10_in 3 = .ok (.ifCond .lt 14, 3) := by decide +kernel
theorem dX10_in_6 : decode cX10_in 6 = .ok (.lload_n 0, 1) := by decide +kernel
theorem dX10_in_7 : decode cX10_in 7 = .ok (.lload 4, 2) := by decide +kernel
theorem dX10_in_9 : decode cX10_in 9 = .ok (.lcmp, 1) := by decide +kernel
theorem dX10_in_10 : decode cX10_in 10 = .ok (.ifCond .gt 7, 3) := by decide +kernel
theorem dX10_in_13 : decode cX10_in 13 = .ok (.iconst 1, 1) := by decide +kernel
theorem dX10_in_14 : decode cX10_in 14 = .ok (.goto 4, 3) := by decide +kernel
theorem dX10_in_17 : decode cX10_in 17 = .ok (.iconst 0, 1) := by decide +kernel
theorem dX10_in_18 : decode cX10_in 18 = .ok (.ireturn, 1) := by decide +kernel
theorem dX10_has_0 : decode cX10_has 0 = .ok (.iload_n 0, 1) := by decide +kernel
theorem dX10_has_1 : decode cX10_has 1 = .ok (.iload_n 1, 1) := by decide +kernel
theorem dX10_has_2 : decode cX10_has 2 = .ok (.ishr, 1) := by decide +kernel
theorem dX10_has_3 : decode cX10_has 3 = .ok (.iconst 1, 1) := by decide +kernel
theorem dX10_has_4 : decode cX10_has 4 = .ok (.iand, 1) := by decide +kernel
theorem dX10_has_5 : decode cX10_has 5 = .ok (.iconst 1, 1) := by decide +kernel
theorem dX10_has_6 : decode cX10_has 6 = .ok (.if_icmp .ne 7, 3) := by decide +kernel
theorem dX10_has_9 : decode cX10_has 9 = .ok (.iconst 1, 1) := by decide +kernel
theorem dX10_has_10 : decode cX10_has 10 = .ok (.goto 4, 3) := by decide +kernel
theorem dX10_has_13 : decode cX10_has 13 = .ok (.iconst 0, 1) := by decide +kernel
theorem dX10_has_14 : decode cX10_has 14 = .ok (.ireturn, 1) := by decide +kernel
set_option maxRecDepth 20000 in
theorem ggX10_write_X10_in : GoodIn wsX10_write wsX10_in := goodIn_r _ [8] (by decide +kernel) (by decide +kernel)
set_option maxRecDepth 20000 in
theorem gX10_write_X10_in : GoodIn wsX10_write (va_wsS RX10 72 yX10_in wsX10_in) := goodIn_app (goodIn_of _ (by decide +kernel)) ggX10_write_X10_in
theorem dX10_write_0 : decode cX10_write 0 = .ok (.aload_n 0, 1) := by decide +kernel
theorem dX10_write_1 : decode cX10_write 1 = .ok (.iconst 0, 1) := by decide +kernel
theorem dX10_write_2 : decode cX10_write 2 = .ok (.putfield 66, 3) := by decide +kernel
theorem dX10_write_5 : decode cX10_write 5 = .ok (.iload_n 1, 1) := by decide +kernel
theorem dX10_write_6 : decode cX10_write 6 = .ok (.i2l, 1) := by decide +kernel
theorem dX10_write_7 : decode cX10_write 7 = .ok (.lconst 0, 1) := by decide +kernel
theorem dX10_write_8 : decode cX10_write 8 = .ok (.ldc2_w 70, 3) := by decide +kernel
theorem dX10_write_11 : decode cX10_write 11 = .ok (.invokestatic 72, 3) := by decide +kernel
theorem dX10_write_14 : decode cX10_write 14 = .ok (.ifCond .ne 6, 3) := by decide +kernel
theorem dX10_write_17 : decode cX10_write 17 = .ok (.bipush (-2), 2) := by decide +kernel
theorem dX10_write_19 : decode cX10_write 19 = .ok (.ireturn, 1) := by decide +kernel
theorem dX10_write_20 : decode cX10_write 20 = .ok (.aload_n 0, 1) := by decide +kernel
theorem dX10_write_21 : decode cX10_write 21 = .ok (.getfield 76, 3) := by decide +kernel
theorem dX10_write_24 : decode cX10_write 24 = .ok (.bipush 24, 2) := by decide +kernel
theorem dX10_write_26 : decode cX10_write 26 = .ok (.if_icmp .ne 6, 3) := by decide +kernel
theorem dX10_write_29 : decode cX10_write 29 = .ok (.bipush (-4), 2) := by decide +kernel
theorem dX10_write_31 : decode cX10_write 31 = .ok (.ireturn, 1) := by decide +kernel
theorem dX10_write_32 : decode cX10_write 32 = .ok (.aload_n 0, 1) := by decide +kernel
theorem dX10_write_33 : decode cX10_write 33 = .ok (.getfield 7, 3) := by decide +kernel
theorem dX10_write_36 : decode cX10_write 36 = .ok (.aload_n 0, 1) := by decide +kernel
theorem dX10_write_37 : decode cX10_write 37 = .ok (.getfield 76, 3) := by decide +kernel
theorem dX10_write_40 : decode cX10_write 40 = .ok (.iload_n 1, 1) := by decide +kernel
theorem dX10_write_41 : decode cX10_write 41 = .ok (.iastore, 1) := by decide +kernel
theorem dX10_write_42 : decode cX10_write 42 = .ok (.aload_n 0, 1) := by decide +kernel
theorem dX10_write_43 : decode cX10_write 43 = .ok (.dup, 1) := by decide +kernel
theorem dX10_write_44 : decode cX10_write 44 = .ok (.getfield 76, 3) := by decide +kernel
theorem dX10_write_47 : decode cX10_write 47 = .ok (.iconst 1, 1) := by decide +kernel
theorem dX10_write_48 : decode cX10_write 48 = .ok (.iadd, 1) := by decide +kernel
theorem dX10_write_49 : decode cX10_write 49 = .ok (.putfield 76, 3) := by decide +kernel
theorem dX10_write_52 : decode cX10_write 52 = .ok (.aload_n 0, 1) := by decide +kernel
theorem dX10_write_53 : decode cX10_write 53 = .ok (.getfield 76, 3) := by decide +kernel
theorem dX10_write_56 : decode cX10_write 56 = .ok (.ireturn, 1) := by decide +kernel
theorem dX10_wipe_0 : decode cX10_wipe 0 = .ok (.aload_n 0, 1) := by decide +kernel
theorem dX10_wipe_1 : decode cX10_wipe 1 = .ok (.iconst 0, 1) := by decide +kernel
theorem dX10_wipe_2 : decode cX10_wipe 2 = .ok (.putfield 66, 3) := by decide +kernel
theorem dX10_wipe_5 : decode cX10_wipe 5 = .ok (.aload_n 0, 1) := by decide +kernel
theorem dX10_wipe_6 : decode cX10_wipe 6 = .ok (.getfield 76, 3) := by decide +kernel
theorem dX10_wipe_9 : decode cX10_wipe 9 = .ok (.istore_n 1, 1) := by decide +kernel
theorem dX10_wipe_10 : decode cX10_wipe 10 = .ok (.aload_n 0, 1) := by decide +kernel
theorem dX10_wipe_11 : decode cX10_wipe 11 = .ok (.iconst 0, 1) := by decide +kernel
theorem dX10_wipe_12 : decode cX10_wipe 12 = .ok (.putfield 76, 3) := by decide +kernel
theorem dX10_wipe_15 : decode cX10_wipe 15 = .ok (.iload_n 1, 1) := by decide +kernel
theorem dX10_wipe_16 : decode cX10_wipe 16 = .ok (.ireturn, 1) := by decide +kernel
set_option maxRecDepth 20000 in
theorem ggX10_figure_X10_in : GoodIn wsX10_figure wsX10_in := goodIn_r _ [7] (by decide +kernel) (by decide +kernel)
set_option maxRecDepth 20000 in
theorem gX10_figure_X10_in : GoodIn wsX10_figure (va_wsS RX10 72 yX10_in wsX10_in) := goodIn_app (goodIn_of _ (by decide +kernel)) ggX10_figure_X10_in
theorem dX10_figure_0 : decode cX10_figure 0 = .ok (.aload_n 0, 1) := by decide +kernel
theorem dX10_figure_1 : decode cX10_figure 1 = .ok (.getfield 79, 3) := by decide +kernel
theorem dX10_figure_4 : decode cX10_figure 4 = .ok (.aload_n 0, 1) := by decide +kernel
theorem dX10_figure_5 : decode cX10_figure 5 = .ok (.getfield 76, 3) := by decide +kernel
theorem dX10_figure_8 : decode cX10_figure 8 = .ok (.if_icmp .eq 26, 3) := by decide +kernel
theorem dX10_figure_11 : decode cX10_figure 11 = .ok (.aload_n 0, 1) := by decide +kernel
theorem dX10_figure_12 : decode cX10_figure 12 = .ok (.getfield 7, 3) := by decide +kernel
theorem dX10_figure_15 : decode cX10_figure 15 = .ok (.aload_n 0, 1) := by decide +kernel
theorem dX10_figure_16 : decode cX10_figure 16 = .ok (.getfield 79, 3) := by decide +kernel
theorem dX10_figure_19 : decode cX10_figure 19 = .ok (.iaload, 1) := by decide +kernel
theorem dX10_figure_20 : decode cX10_figure 20 = .ok (.bipush 48, 2) := by decide +kernel
theorem dX10_figure_22 : decode cX10_figure 22 = .ok (.isub, 1) := by decide +kernel
theorem dX10_figure_23 : decode cX10_figure 23 = .ok (.i2l, 1) := by decide +kernel
theorem dX10_figure_24 : decode cX10_figure 24 = .ok (.iload_n 1, 1) := by decide +kernel
theorem dX10_figure_25 : decode cX10_figure 25 = .ok (.i2l, 1) := by decide +kernel
theorem dX10_figure_26 : decode cX10_figure 26 = .ok (.iload_n 2, 1) := by decide +kernel
theorem dX10_figure_27 : decode cX10_figure 27 = .ok (.i2l, 1) := by decide +kernel
theorem dX10_figure_28 : decode cX10_figure 28 = .ok (.invokestatic 72, 3) := by decide +kernel
theorem dX10_figure_31 : decode cX10_figure 31 = .ok (.ifCond .ne 6, 3) := by decide +kernel
theorem dX10_figure_34 : decode cX10_figure 34 = .ok (.bipush (-9), 2) := by decide +kernel
theorem dX10_figure_36 : decode cX10_figure 36 = .ok (.ireturn, 1) := by decide +kernel
theorem dX10_figure_37 : decode cX10_figure 37 = .ok (.aload_n 0, 1) := by decide +kernel
theorem dX10_figure_38 : decode cX10_figure 38 = .ok (.dup, 1) := by decide +kernel
theorem dX10_figure_39 : decode cX10_figure 39 = .ok (.getfield 79, 3) := by decide +kernel
theorem dX10_figure_42 : decode cX10_figure 42 = .ok (.iconst 1, 1) := by decide +kernel
theorem dX10_figure_43 : decode cX10_figure 43 = .ok (.iadd, 1) := by decide +kernel
theorem dX10_figure_44 : decode cX10_figure 44 = .ok (.putfield 79, 3) := by decide +kernel
theorem dX10_figure_47 : decode cX10_figure 47 = .ok (.aload_n 0, 1) := by decide +kernel
theorem dX10_figure_48 : decode cX10_figure 48 = .ok (.getfield 7, 3) := by decide +kernel
theorem dX10_figure_51 : decode cX10_figure 51 = .ok (.aload_n 0, 1) := by decide +kernel
theorem dX10_figure_52 : decode cX10_figure 52 = .ok (.getfield 79, 3) := by decide +kernel
theorem dX10_figure_55 : decode cX10_figure 55 = .ok (.iconst 1, 1) := by decide +kernel
theorem dX10_figure_56 : decode cX10_figure 56 = .ok (.isub, 1) := by decide +kernel
theorem dX10_figure_57 : decode cX10_figure 57 = .ok (.iaload, 1) := by decide +kernel
theorem dX10_figure_58 : decode cX10_figure 58 = .ok (.bipush 48, 2) := by decide +kernel
theorem dX10_figure_60 : decode cX10_figure 60 = .ok (.isub, 1) := by decide +kernel
theorem dX10_figure_61 : decode cX10_figure 61 = .ok (.ireturn, 1) := by decide +kernel
set_option maxRecDepth 20000 in
theorem ggX10_readCastle_X10_figure : GoodIn wsX10_readCastle wsX10_figure := goodIn_r _ [12, 1, 5, 6, 13, 14, 11, 15, 16, 17, 18, 19, 20, 21, 22, 23, 24, 25, 26, 27, 28, 29, 30, 31, 32, 33, 34, 35, 36, 37, 38, 39, 40, 41, 42, 43, 44, 45, 46] (by decide +kernel) (by decide +kernel)
set_option maxRecDepth 20000 in
theorem gX10_readCastle_X10_figure : GoodIn wsX10_readCastle (wsV RX10 91 RX10 yX10_figure wsX10_figure) := goodIn_app (goodIn_of _ (by decide +kernel)) ggX10_readCastle_X10_figure
theorem dX10_readCastle_0 : decode cX10_readCastle 0 = .ok (.aload_n 0, 1) := by decide +kernel
theorem dX10_readCastle_1 : decode cX10_readCastle 1 = .ok (.iconst 0, 1) := by decide +kernel
theorem dX10_readCastle_2 : decode cX10_readCastle 2 = .ok (.putfield 79, 3) := by decide +kernel
theorem dX10_readCastle_5 : decode cX10_readCastle 5 = .ok (.aload_n 0, 1) := by decide +kernel
theorem dX10_readCastle_6 : decode cX10_readCastle 6 = .ok (.iconst 0, 1) := by decide +kernel
theorem dX10_readCastle_7 : decode cX10_readCastle 7 = .ok (.putfield 82, 3) := by decide +kernel
theorem dX10_readCastle_10 : decode cX10_readCastle 10 = .ok (.aload_n 0, 1) := by decide +kernel
theorem dX10_readCastle_11 : decode cX10_readCastle 11 = .ok (.iconst 0, 1) := by decide +kernel
theorem dX10_readCastle_12 : decode cX10_readCastle 12 = .ok (.putfield 85, 3) := by decide +kernel
theorem dX10_readCastle_15 : decode cX10_readCastle 15 = .ok (.aload_n 0, 1) := by decide +kernel
theorem dX10_readCastle_16 : decode cX10_readCastle 16 = .ok (.iconst 0, 1) := by decide +kernel
theorem dX10_readCastle_17 : decode cX10_readCastle 17 = .ok (.putfield 88, 3) := by decide +kernel
theorem dX10_readCastle_20 : decode cX10_readCastle 20 = .ok (.aload_n 0, 1) := by decide +kernel
theorem dX10_readCastle_21 : decode cX10_readCastle 21 = .ok (.getfield 76, 3) := by decide +kernel
theorem dX10_readCastle_24 : decode cX10_readCastle 24 = .ok (.ifCond .eq 14, 3) := by decide +kernel
theorem dX10_readCastle_27 : decode cX10_readCastle 27 = .ok (.aload_n 0, 1) := by decide +kernel
theorem dX10_readCastle_28 : decode cX10_readCastle 28 = .ok (.getfield 7, 3) := by decide +kernel
theorem dX10_readCastle_31 : decode cX10_readCastle 31 = .ok (.iconst 0, 1) := by decide +kernel
theorem dX10_readCastle_32 : decode cX10_readCastle 32 = .ok (.iaload, 1) := by decide +kernel
theorem dX10_readCastle_33 : decode cX10_readCastle 33 = .ok (.bipush 77, 2) := by decide +kernel
theorem dX10_readCastle_35 : decode cX10_readCastle 35 = .ok (.if_icmp .eq 5, 3) := by decide +kernel
theorem dX10_readCastle_38 : decode cX10_readCastle 38 = .ok (.iconst 0, 1) := by decide +kernel
theorem dX10_readCastle_39 : decode cX10_readCastle 39 = .ok (.ireturn, 1) := by decide +kernel
theorem dX10_readCastle_40 : decode cX10_readCastle 40 = .ok (.aload_n 0, 1) := by decide +kernel
theorem dX10_readCastle_41 : decode cX10_readCastle 41 = .ok (.iconst 1, 1) := by decide +kernel
theorem dX10_readCastle_42 : decode cX10_readCastle 42 = .ok (.putfield 79, 3) := by decide +kernel
theorem dX10_readCastle_45 : decode cX10_readCastle 45 = .ok (.aload_n 0, 1) := by decide +kernel
theorem dX10_readCastle_46 : decode cX10_readCastle 46 = .ok (.aload_n 0, 1) := by decide +kernel
theorem dX10_readCastle_47 : decode cX10_readCastle 47 = .ok (.iconst 0, 1) := by decide +kernel
theorem dX10_readCastle_48 : decode cX10_readCastle 48 = .ok (.bipush 6, 2) := by decide +kernel
theorem dX10_readCastle_50 : decode cX10_readCastle 50 = .ok (.invokevirtual 91, 3) := by decide +kernel
theorem dX10_readCastle_53 : decode cX10_readCastle 53 = .ok (.putfield 95, 3) := by decide +kernel
theorem dX10_readCastle_56 : decode cX10_readCastle 56 = .ok (.aload_n 0, 1) := by decide +kernel
theorem dX10_readCastle_57 : decode cX10_readCastle 57 = .ok (.getfield 95, 3) := by decide +kernel
theorem dX10_readCastle_60 : decode cX10_readCastle 60 = .ok (.bipush (-9), 2) := by decide +kernel
theorem dX10_readCastle_62 : decode cX10_readCastle 62 = .ok (.if_icmp .ne 5, 3) := by decide +kernel
theorem dX10_readCastle_65 : decode cX10_readCastle 65 = .ok (.iconst 1, 1) := by decide +kernel
theorem dX10_readCastle_66 : decode cX10_readCastle 66 = .ok (.ireturn, 1) := by decide +kernel
theorem dX10_readCastle_67 : decode cX10_readCastle 67 = .ok (.aload_n 0, 1) := by decide +kernel
theorem dX10_readCastle_68 : decode cX10_readCastle 68 = .ok (.getfield 79, 3) := by decide +kernel
theorem dX10_readCastle_71 : decode cX10_readCastle 71 = .ok (.aload_n 0, 1) := by decide +kernel
theorem dX10_readCastle_72 : decode cX10_readCastle 72 = .ok (.getfield 76, 3) := by decide +kernel
theorem dX10_readCastle_75 : decode cX10_readCastle 75 = .ok (.if_icmp .ge 119, 3) := by decide +kernel
theorem dX10_readCastle_78 : decode cX10_readCastle 78 = .ok (.aload_n 0, 1) := by decide +kernel
theorem dX10_readCastle_79 : decode cX10_readCastle 79 = .ok (.getfield 7, 3) := by decide +kernel
theorem dX10_readCastle_82 : decode cX10_readCastle 82 = .ok (.aload_n 0, 1) := by decide +kernel
theorem dX10_readCastle_83 : decode cX10_readCastle 83 = .ok (.getfield 79, 3) := by decide +kernel
theorem dX10_readCastle_86 : decode cX10_readCastle 86 = .ok (.iaload, 1) := by decide +kernel
theorem dX10_readCastle_87 : decode cX10_readCastle 87 = .ok (.bipush 70, 2) := by decide +kernel
theorem dX10_readCastle_89 : decode cX10_readCastle 89 = .ok (.if_icmp .ne 11, 3) := by decide +kernel
theorem dX10_readCastle_92 : decode cX10_readCastle 92 = .ok (.aload_n 0, 1) := by decide +kernel
theorem dX10_readCastle_93 : decode cX10_readCastle 93 = .ok (.getfield 82, 3) := by decide +kernel
theorem dX10_readCastle_96 : decode cX10_readCastle 96 = .ok (.iconst 5, 1) := by decide +kernel
theorem dX10_readCastle_97 : decode cX10_readCastle 97 = .ok (.if_icmp .ne 8, 3) := by decide +kernel
theorem dX10_readCastle_100 : decode cX10_readCastle 100 = .ok (.aload_n 0, 1) := by decide +kernel
theorem dX10_readCastle_101 : decode cX10_readCastle 101 = .ok (.getfield 79, 3) := by decide +kernel
theorem dX10_readCastle_104 : decode cX10_readCastle 104 = .ok (.ireturn, 1) := by decide +kernel
theorem dX10_readCastle_105 : decode cX10_readCastle 105 = .ok (.aload_n 0, 1) := by decide +kernel
theorem dX10_readCastle_106 : decode cX10_readCastle 106 = .ok (.dup, 1) := by decide +kernel
theorem dX10_readCastle_107 : decode cX10_readCastle 107 = .ok (.getfield 79, 3) := by decide +kernel
theorem dX10_readCastle_110 : decode cX10_readCastle 110 = .ok (.iconst 1, 1) := by decide +kernel
theorem dX10_readCastle_111 : decode cX10_readCastle 111 = .ok (.iadd, 1) := by decide +kernel
theorem dX10_readCastle_112 : decode cX10_readCastle 112 = .ok (.putfield 79, 3) := by decide +kernel
theorem dX10_readCastle_115 : decode cX10_readCastle 115 = .ok (.aload_n 0, 1) := by decide +kernel
theorem dX10_readCastle_116 : decode cX10_readCastle 116 = .ok (.iconst 0, 1) := by decide +kernel
theorem dX10_readCastle_117 : decode cX10_readCastle 117 = .ok (.iconst 1, 1) := by decide +kernel
theorem dX10_readCastle_118 : decode cX10_readCastle 118 = .ok (.invokevirtual 91, 3) := by decide +kernel
theorem dX10_readCastle_121 : decode cX10_readCastle 121 = .ok (.istore_n 1, 1) := by decide +kernel
theorem dX10_readCastle_122 : decode cX10_readCastle 122 = .ok (.iload_n 1, 1) := by decide +kernel
theorem dX10_readCastle_123 : decode cX10_readCastle 123 = .ok (.bipush (-9), 2) := by decide +kernel
theorem dX10_readCastle_125 : decode cX10_readCastle 125 = .ok (.if_icmp .ne 8, 3) := by decide +kernel
theorem dX10_readCastle_128 : decode cX10_readCastle 128 = .ok (.bipush (-9), 2) := by decide +kernel
theorem dX10_readCastle_130 : decode cX10_readCastle 130 = .ok (.goto 9, 3) := by decide +kernel
theorem dX10_readCastle_133 : decode cX10_readCastle 133 = .ok (.aload_n 0, 1) := by decide +kernel
theorem dX10_readCastle_134 : decode cX10_readCastle 134 = .ok (.iconst 0, 1) := by decide +kernel
theorem dX10_readCastle_135 : decode cX10_readCastle 135 = .ok (.iconst 1, 1) := by decide +kernel
theorem dX10_readCastle_136 : decode cX10_readCastle 136 = .ok (.invokevirtual 91, 3) := by decide +kernel
theorem dX10_readCastle_139 : decode cX10_readCastle 139 = .ok (.istore_n 2, 1) := by decide +kernel
theorem dX10_readCastle_140 : decode cX10_readCastle 140 = .ok (.iload_n 2, 1) := by decide +kernel
theorem dX10_readCastle_141 : decode cX10_readCastle 141 = .ok (.bipush (-9), 2) := by decide +kernel
theorem dX10_readCastle_143 : decode cX10_readCastle 143 = .ok (.if_icmp .ne 8, 3) := by decide +kernel
theorem dX10_readCastle_146 : decode cX10_readCastle 146 = .ok (.aload_n 0, 1) := by decide +kernel
theorem dX10_readCastle_147 : decode cX10_readCastle 147 = .ok (.getfield 79, 3) := by decide +kernel
theorem dX10_readCastle_150 : decode cX10_readCastle 150 = .ok (.ireturn, 1) := by decide +kernel
theorem dX10_readCastle_151 : decode cX10_readCastle 151 = .ok (.aload_n 0, 1) := by decide +kernel
theorem dX10_readCastle_152 : decode cX10_readCastle 152 = .ok (.dup, 1) := by decide +kernel
theorem dX10_readCastle_153 : decode cX10_readCastle 153 = .ok (.getfield 85, 3) := by decide +kernel
theorem dX10_readCastle_156 : decode cX10_readCastle 156 = .ok (.iload_n 1, 1) := by decide +kernel
theorem dX10_readCastle_157 : decode cX10_readCastle 157 = .ok (.aload_n 0, 1) := by decide +kernel
theorem dX10_readCastle_158 : decode cX10_readCastle 158 = .ok (.getfield 82, 3) := by decide +kernel
theorem dX10_readCastle_161 : decode cX10_readCastle 161 = .ok (.ishl, 1) := by decide +kernel
theorem dX10_readCastle_162 : decode cX10_readCastle 162 = .ok (.ior, 1) := by decide +kernel
theorem dX10_readCastle_163 : decode cX10_readCastle 163 = .ok (.putfield 85, 3) := by decide +kernel
theorem dX10_readCastle_166 : decode cX10_readCastle 166 = .ok (.aload_n 0, 1) := by decide +kernel
theorem dX10_readCastle_167 : decode cX10_readCastle 167 = .ok (.dup, 1) := by decide +kernel
theorem dX10_readCastle_168 : decode cX10_readCastle 168 = .ok (.getfield 88, 3) := by decide +kernel
theorem dX10_readCastle_171 : decode cX10_readCastle 171 = .ok (.iload_n 2, 1) := by decide +kernel
theorem dX10_readCastle_172 : decode cX10_readCastle 172 = .ok (.aload_n 0, 1) := by decide +kernel
theorem dX10_readCastle_173 : decode cX10_readCastle 173 = .ok (.getfield 82, 3) := by decide +kernel
theorem dX10_readCastle_176 : decode cX10_readCastle 176 = .ok (.ishl, 1) := by decide +kernel
theorem dX10_readCastle_177 : decode cX10_readCastle 177 = .ok (.ior, 1) := by decide +kernel
theorem dX10_readCastle_178 : decode cX10_readCastle 178 = .ok (.putfield 88, 3) := by decide +kernel
theorem dX10_readCastle_181 : decode cX10_readCastle 181 = .ok (.aload_n 0, 1) := by decide +kernel
theorem dX10_readCastle_182 : decode cX10_readCastle 182 = .ok (.dup, 1) := by decide +kernel
theorem dX10_readCastle_183 : decode cX10_readCastle 183 = .ok (.getfield 82, 3) := by decide +kernel
theorem dX10_readCastle_186 : decode cX10_readCastle 186 = .ok (.iconst 1, 1) := by decide +kernel
theorem dX10_readCastle_187 : decode cX10_readCastle 187 = .ok (.iadd, 1) := by decide +kernel
theorem dX10_readCastle_188 : decode cX10_readCastle 188 = .ok (.putfield 82, 3) := by decide +kernel
theorem dX10_readCastle_191 : decode cX10_readCastle 191 = .ok (.goto (-124), 3) := by decide +kernel
theorem dX10_readCastle_194 : decode cX10_readCastle 194 = .ok (.bipush (-9), 2) := by decide +kernel
theorem dX10_readCastle_196 : decode cX10_readCastle 196 = .ok (.ireturn, 1) := by decide +kernel
set_option maxRecDepth 20000 in
theorem ggX10_fault_X10_readCastle : GoodIn wsX10_fault wsX10_readCastle := goodIn_r _ [6, 7, 8, 9, 10, 11, 12, 13, 14, 15, 16, 5, 17, 18, 19, 20, 21, 22, 23, 24, 25, 26, 27, 28, 29, 30, 31, 32, 33, 34, 35, 36, 37, 38, 39, 40, 41, 42, 43, 44, 45, 46, 47, 48, 49, 50, 51] (by decide +kernel) (by decide +kernel)
set_option maxRecDepth 20000 in
theorem gX10_fault_X10_readCastle : GoodIn wsX10_fault (wsV RX10 98 RX10 yX10_readCastle wsX10_readCastle) := goodIn_app (goodIn_of _ (by decide +kernel)) ggX10_fault_X10_readCastle
theorem dX10_fault_0 : decode cX10_fault 0 = .ok (.aload_n 0, 1) := by decide +kernel
theorem dX10_fault_1 : decode cX10_fault 1 = .ok (.iconst 0, 1) := by decide +kernel
theorem dX10_fault_2 : decode cX10_fault 2 = .ok (.putfield 66, 3) := by decide +kernel
theorem dX10_fault_5 : decode cX10_fault 5 = .ok (.aload_n 0, 1) := by decide +kernel
theorem dX10_fault_6 : decode cX10_fault 6 = .ok (.invokevirtual 98, 3) := by decide +kernel
theorem dX10_fault_9 : decode cX10_fault 9 = .ok (.ireturn, 1) := by decide +kernel
theorem dX10_agreed_0 : decode cX10_agreed 0 = .ok (.iconst 0, 1) := by decide +kernel
theorem dX10_agreed_1 : decode cX10_agreed 1 = .ok (.istore_n 1, 1) := by decide +kernel
theorem dX10_agreed_2 : decode cX10_agreed 2 = .ok (.iconst 0, 1) := by decide +kernel
theorem dX10_agreed_3 : decode cX10_agreed 3 = .ok (.istore_n 2, 1) := by decide +kernel
theorem dX10_agreed_4 : decode cX10_agreed 4 = .ok (.iload_n 2, 1) := by decide +kernel
theorem dX10_agreed_5 : decode cX10_agreed 5 = .ok (.iconst 1, 1) := by decide +kernel
theorem dX10_agreed_6 : decode cX10_agreed 6 = .ok (.aload_n 0, 1) := by decide +kernel
theorem dX10_agreed_7 : decode cX10_agreed 7 = .ok (.getfield 102, 3) := by decide +kernel
theorem dX10_agreed_10 : decode cX10_agreed 10 = .ok (.ishl, 1) := by decide +kernel
theorem dX10_agreed_11 : decode cX10_agreed 11 = .ok (.if_icmp .ge 33, 3) := by decide +kernel
theorem dX10_agreed_14 : decode cX10_agreed 14 = .ok (.iload_n 1, 1) := by decide +kernel
theorem dX10_agreed_15 : decode cX10_agreed 15 = .ok (.iload_n 2, 1) := by decide +kernel
theorem dX10_agreed_16 : decode cX10_agreed 16 = .ok (.aload_n 0, 1) := by decide +kernel
theorem dX10_agreed_17 : decode cX10_agreed 17 = .ok (.getfield 105, 3) := by decide +kernel
theorem dX10_agreed_20 : decode cX10_agreed 20 = .ok (.ixor, 1) := by decide +kernel
theorem dX10_agreed_21 : decode cX10_agreed 21 = .ok (.aload_n 0, 1) := by decide +kernel
theorem dX10_agreed_22 : decode cX10_agreed 22 = .ok (.getfield 108, 3) := by decide +kernel
theorem dX10_agreed_25 : decode cX10_agreed 25 = .ok (.iand, 1) := by decide +kernel
theorem dX10_agreed_26 : decode cX10_agreed 26 = .ok (.ifCond .ne 9, 3) := by decide +kernel
theorem dX10_agreed_29 : decode cX10_agreed 29 = .ok (.iconst 1, 1) := by decide +kernel
theorem dX10_agreed_30 : decode cX10_agreed 30 = .ok (.iload_n 2, 1) := by decide +kernel
theorem dX10_agreed_31 : decode cX10_agreed 31 = .ok (.ishl, 1) := by decide +kernel
theorem dX10_agreed_32 : decode cX10_agreed 32 = .ok (.goto 4, 3) := by decide +kernel
theorem dX10_agreed_35 : decode cX10_agreed 35 = .ok (.iconst 0, 1) := by decide +kernel
theorem dX10_agreed_36 : decode cX10_agreed 36 = .ok (.ior, 1) := by decide +kernel
theorem dX10_agreed_37 : decode cX10_agreed 37 = .ok (.istore_n 1, 1) := by decide +kernel
theorem dX10_agreed_38 : decode cX10_agreed 38 = .ok (.iinc 2 1, 3) := by decide +kernel
theorem dX10_agreed_41 : decode cX10_agreed 41 = .ok (.goto (-37), 3) := by decide +kernel
theorem dX10_agreed_44 : decode cX10_agreed 44 = .ok (.iload_n 1, 1) := by decide +kernel
theorem dX10_agreed_45 : decode cX10_agreed 45 = .ok (.ireturn, 1) := by decide +kernel
set_option maxRecDepth 20000 in
theorem ggX10_castle_X10_readCastle : GoodIn wsX10_castle wsX10_readCastle := goodIn_r _ [16, 17, 2, 4, 6, 18, 19, 9, 20, 21, 22, 15, 23, 24, 25, 26, 61, 62, 63, 64, 65, 66, 67, 68, 69, 70, 71, 72, 73, 74, 75, 76, 77, 78, 79, 80, 81, 82, 83, 84, 85, 86, 87, 88, 89, 90, 91] (by decide +kernel) (by decide +kernel)
set_option maxRecDepth 20000 in
theorem gX10_castle_X10_readCastle : GoodIn wsX10_castle (wsV RX10 98 RX10 yX10_readCastle wsX10_readCastle) := goodIn_app (goodIn_of _ (by decide +kernel)) ggX10_castle_X10_readCastle
set_option maxRecDepth 20000 in
theorem ggX10_castle_X10_layAnswers : GoodIn wsX10_castle wsX10_layAnswers := goodIn_r _ [30, 31, 32, 33, 3, 34, 35, 15, 36, 37, 38, 39, 40, 41, 42, 43, 44, 45, 46, 47, 48, 49, 50, 51, 52, 24, 25, 26, 53, 54, 55, 56, 61, 62, 63, 64, 65, 66, 67, 68, 69, 70, 71, 72, 73, 74, 75, 76, 77, 78, 79, 80, 81, 82, 83, 84, 85, 86, 87, 88, 89, 90, 91] (by decide +kernel) (by decide +kernel)
set_option maxRecDepth 20000 in
theorem gX10_castle_X10_layAnswers : GoodIn wsX10_castle (wsV RX10 63 RX10 yX10_layAnswers wsX10_layAnswers) := goodIn_app (goodIn_of _ (by decide +kernel)) ggX10_castle_X10_layAnswers
set_option maxRecDepth 20000 in
theorem ggX10_castle_X10_agreed : GoodIn wsX10_castle wsX10_agreed := goodIn_r _ [60, 3, 5, 7, 61, 62, 63, 64, 65, 66, 67, 68, 69, 70, 71, 72, 73, 74, 75, 76, 77, 78, 79, 80, 81, 82, 83, 84, 85, 86, 87, 88, 89, 90, 91] (by decide +kernel) (by decide +kernel)
set_option maxRecDepth 20000 in
theorem gX10_castle_X10_agreed : GoodIn wsX10_castle (wsV RX10 111 RX10 yX10_agreed wsX10_agreed) := goodIn_app (goodIn_of _ (by decide +kernel)) ggX10_castle_X10_agreed
theorem dX10_castle_0 : decode cX10_castle 0 = .ok (.aload_n 0, 1) := by decide +kernel
theorem dX10_castle_1 : decode cX10_castle 1 = .ok (.iconst 0, 1) := by decide +kernel
theorem dX10_castle_2 : decode cX10_castle 2 = .ok (.putfield 66, 3) := by decide +kernel
theorem dX10_castle_5 : decode cX10_castle 5 = .ok (.aload_n 0, 1) := by decide +kernel
theorem dX10_castle_6 : decode cX10_castle 6 = .ok (.invokevirtual 98, 3) := by decide +kernel
theorem dX10_castle_9 : decode cX10_castle 9 = .ok (.bipush (-9), 2) := by decide +kernel
theorem dX10_castle_11 : decode cX10_castle 11 = .ok (.if_icmp .eq 6, 3) := by decide +kernel
theorem dX10_castle_14 : decode cX10_castle 14 = .ok (.bipush (-3), 2) := by decide +kernel
theorem dX10_castle_16 : decode cX10_castle 16 = .ok (.ireturn, 1) := by decide +kernel
theorem dX10_castle_17 : decode cX10_castle 17 = .ok (.aload_n 0, 1) := by decide +kernel
theorem dX10_castle_18 : decode cX10_castle 18 = .ok (.aload_n 0, 1) := by decide +kernel
theorem dX10_castle_19 : decode cX10_castle 19 = .ok (.getfield 82, 3) := by decide +kernel
theorem dX10_castle_22 : decode cX10_castle 22 = .ok (.putfield 102, 3) := by decide +kernel
theorem dX10_castle_25 : decode cX10_castle 25 = .ok (.aload_n 0, 1) := by decide +kernel
theorem dX10_castle_26 : decode cX10_castle 26 = .ok (.aload_n 0, 1) := by decide +kernel
theorem dX10_castle_27 : decode cX10_castle 27 = .ok (.getfield 85, 3) := by decide +kernel
theorem dX10_castle_30 : decode cX10_castle 30 = .ok (.putfield 105, 3) := by decide +kernel
theorem dX10_castle_33 : decode cX10_castle 33 = .ok (.aload_n 0, 1) := by decide +kernel
theorem dX10_castle_34 : decode cX10_castle 34 = .ok (.aload_n 0, 1) := by decide +kernel
theorem dX10_castle_35 : decode cX10_castle 35 = .ok (.getfield 88, 3) := by decide +kernel
theorem dX10_castle_38 : decode cX10_castle 38 = .ok (.putfield 108, 3) := by decide +kernel
theorem dX10_castle_41 : decode cX10_castle 41 = .ok (.aload_n 0, 1) := by decide +kernel
theorem dX10_castle_42 : decode cX10_castle 42 = .ok (.invokevirtual 63, 3) := by decide +kernel
theorem dX10_castle_45 : decode cX10_castle 45 = .ok (.iconst 0, 1) := by decide +kernel
theorem dX10_castle_46 : decode cX10_castle 46 = .ok (.istore_n 1, 1) := by decide +kernel
theorem dX10_castle_47 : decode cX10_castle 47 = .ok (.iload_n 1, 1) := by decide +kernel
theorem dX10_castle_48 : decode cX10_castle 48 = .ok (.bipush 7, 2) := by decide +kernel
theorem dX10_castle_50 : decode cX10_castle 50 = .ok (.if_icmp .ge 19, 3) := by decide +kernel
theorem dX10_castle_53 : decode cX10_castle 53 = .ok (.aload_n 0, 1) := by decide +kernel
theorem dX10_castle_54 : decode cX10_castle 54 = .ok (.getfield 16, 3) := by decide +kernel
theorem dX10_castle_57 : decode cX10_castle 57 = .ok (.iload_n 1, 1) := by decide +kernel
theorem dX10_castle_58 : decode cX10_castle 58 = .ok (.aload_n 0, 1) := by decide +kernel
theorem dX10_castle_59 : decode cX10_castle 59 = .ok (.invokevirtual 111, 3) := by decide +kernel
theorem dX10_castle_62 : decode cX10_castle 62 = .ok (.iastore, 1) := by decide +kernel
theorem dX10_castle_63 : decode cX10_castle 63 = .ok (.iinc 1 1, 3) := by decide +kernel
theorem dX10_castle_66 : decode cX10_castle 66 = .ok (.goto (-19), 3) := by decide +kernel
theorem dX10_castle_69 : decode cX10_castle 69 = .ok (.aload_n 0, 1) := by decide +kernel
theorem dX10_castle_70 : decode cX10_castle 70 = .ok (.getfield 16, 3) := by decide +kernel
theorem dX10_castle_73 : decode cX10_castle 73 = .ok (.bipush 7, 2) := by decide +kernel
theorem dX10_castle_75 : decode cX10_castle 75 = .ok (.iconst 0, 1) := by decide +kernel
theorem dX10_castle_76 : decode cX10_castle 76 = .ok (.iastore, 1) := by decide +kernel
theorem dX10_castle_77 : decode cX10_castle 77 = .ok (.aload_n 0, 1) := by decide +kernel
theorem dX10_castle_78 : decode cX10_castle 78 = .ok (.getfield 16, 3) := by decide +kernel
theorem dX10_castle_81 : decode cX10_castle 81 = .ok (.bipush 8, 2) := by decide +kernel
theorem dX10_castle_83 : decode cX10_castle 83 = .ok (.aload_n 0, 1) := by decide +kernel
theorem dX10_castle_84 : decode cX10_castle 84 = .ok (.getfield 95, 3) := by decide +kernel
theorem dX10_castle_87 : decode cX10_castle 87 = .ok (.iastore, 1) := by decide +kernel
theorem dX10_castle_88 : decode cX10_castle 88 = .ok (.aload_n 0, 1) := by decide +kernel
theorem dX10_castle_89 : decode cX10_castle 89 = .ok (.getfield 16, 3) := by decide +kernel
theorem dX10_castle_92 : decode cX10_castle 92 = .ok (.bipush 9, 2) := by decide +kernel
theorem dX10_castle_94 : decode cX10_castle 94 = .ok (.iconst 0, 1) := by decide +kernel
theorem dX10_castle_95 : decode cX10_castle 95 = .ok (.iastore, 1) := by decide +kernel
theorem dX10_castle_96 : decode cX10_castle 96 = .ok (.aload_n 0, 1) := by decide +kernel
theorem dX10_castle_97 : decode cX10_castle 97 = .ok (.getfield 16, 3) := by decide +kernel
theorem dX10_castle_100 : decode cX10_castle 100 = .ok (.bipush 10, 2) := by decide +kernel
theorem dX10_castle_102 : decode cX10_castle 102 = .ok (.iconst 0, 1) := by decide +kernel
theorem dX10_castle_103 : decode cX10_castle 103 = .ok (.iastore, 1) := by decide +kernel
theorem dX10_castle_104 : decode cX10_castle 104 = .ok (.aload_n 0, 1) := by decide +kernel
theorem dX10_castle_105 : decode cX10_castle 105 = .ok (.getfield 16, 3) := by decide +kernel
theorem dX10_castle_108 : decode cX10_castle 108 = .ok (.bipush 11, 2) := by decide +kernel
theorem dX10_castle_110 : decode cX10_castle 110 = .ok (.iconst 0, 1) := by decide +kernel
theorem dX10_castle_111 : decode cX10_castle 111 = .ok (.iastore, 1) := by decide +kernel
theorem dX10_castle_112 : decode cX10_castle 112 = .ok (.aload_n 0, 1) := by decide +kernel
theorem dX10_castle_113 : decode cX10_castle 113 = .ok (.iconst 0, 1) := by decide +kernel
theorem dX10_castle_114 : decode cX10_castle 114 = .ok (.putfield 114, 3) := by decide +kernel
theorem dX10_castle_117 : decode cX10_castle 117 = .ok (.aload_n 0, 1) := by decide +kernel
theorem dX10_castle_118 : decode cX10_castle 118 = .ok (.getfield 29, 3) := by decide +kernel
theorem dX10_castle_121 : decode cX10_castle 121 = .ok (.iconst 0, 1) := by decide +kernel
theorem dX10_castle_122 : decode cX10_castle 122 = .ok (.iconst 0, 1) := by decide +kernel
theorem dX10_castle_123 : decode cX10_castle 123 = .ok (.bastore, 1) := by decide +kernel
theorem dX10_castle_124 : decode cX10_castle 124 = .ok (.aload_n 0, 1) := by decide +kernel
theorem dX10_castle_125 : decode cX10_castle 125 = .ok (.getfield 29, 3) := by decide +kernel
theorem dX10_castle_128 : decode cX10_castle 128 = .ok (.iconst 1, 1) := by decide +kernel
theorem dX10_castle_129 : decode cX10_castle 129 = .ok (.iconst 0, 1) := by decide +kernel
theorem dX10_castle_130 : decode cX10_castle 130 = .ok (.bastore, 1) := by decide +kernel
theorem dX10_castle_131 : decode cX10_castle 131 = .ok (.aload_n 0, 1) := by decide +kernel
theorem dX10_castle_132 : decode cX10_castle 132 = .ok (.getfield 102, 3) := by decide +kernel
theorem dX10_castle_135 : decode cX10_castle 135 = .ok (.ireturn, 1) := by decide +kernel
set_option maxRecDepth 20000 in
theorem ggX10_quill_X10_in : GoodIn wsX10_quill wsX10_in := goodIn_r _ [8] (by decide +kernel) (by decide +kernel)
set_option maxRecDepth 20000 in
theorem gX10_quill_X10_in : GoodIn wsX10_quill (va_wsS RX10 72 yX10_in wsX10_in) := goodIn_app (goodIn_of _ (by decide +kernel)) ggX10_quill_X10_in
theorem dX10_quill_0 : decode cX10_quill 0 = .ok (.aload_n 0, 1) := by decide +kernel
theorem dX10_quill_1 : decode cX10_quill 1 = .ok (.iconst 0, 1) := by decide +kernel
theorem dX10_quill_2 : decode cX10_quill 2 = .ok (.putfield 66, 3) := by decide +kernel
theorem dX10_quill_5 : decode cX10_quill 5 = .ok (.iload_n 1, 1) := by decide +kernel
theorem dX10_quill_6 : decode cX10_quill 6 = .ok (.i2l, 1) := by decide +kernel
theorem dX10_quill_7 : decode cX10_quill 7 = .ok (.lconst 0, 1) := by decide +kernel
theorem dX10_quill_8 : decode cX10_quill 8 = .ok (.ldc2_w 70, 3) := by decide +kernel
theorem dX10_quill_11 : decode cX10_quill 11 = .ok (.invokestatic 72, 3) := by decide +kernel
theorem dX10_quill_14 : decode cX10_quill 14 = .ok (.ifCond .ne 6, 3) := by decide +kernel
theorem dX10_quill_17 : decode cX10_quill 17 = .ok (.bipush (-2), 2) := by decide +kernel
theorem dX10_quill_19 : decode cX10_quill 19 = .ok (.ireturn, 1) := by decide +kernel
theorem dX10_quill_20 : decode cX10_quill 20 = .ok (.aload_n 0, 1) := by decide +kernel
theorem dX10_quill_21 : decode cX10_quill 21 = .ok (.getfield 117, 3) := by decide +kernel
theorem dX10_quill_24 : decode cX10_quill 24 = .ok (.bipush 16, 2) := by decide +kernel
theorem dX10_quill_26 : decode cX10_quill 26 = .ok (.if_icmp .ne 6, 3) := by decide +kernel
theorem dX10_quill_29 : decode cX10_quill 29 = .ok (.bipush (-4), 2) := by decide +kernel
theorem dX10_quill_31 : decode cX10_quill 31 = .ok (.ireturn, 1) := by decide +kernel
theorem dX10_quill_32 : decode cX10_quill 32 = .ok (.aload_n 0, 1) := by decide +kernel
theorem dX10_quill_33 : decode cX10_quill 33 = .ok (.getfield 13, 3) := by decide +kernel
theorem dX10_quill_36 : decode cX10_quill 36 = .ok (.aload_n 0, 1) := by decide +kernel
theorem dX10_quill_37 : decode cX10_quill 37 = .ok (.getfield 117, 3) := by decide +kernel
theorem dX10_quill_40 : decode cX10_quill 40 = .ok (.iload_n 1, 1) := by decide +kernel
theorem dX10_quill_41 : decode cX10_quill 41 = .ok (.iastore, 1) := by decide +kernel
theorem dX10_quill_42 : decode cX10_quill 42 = .ok (.aload_n 0, 1) := by decide +kernel
theorem dX10_quill_43 : decode cX10_quill 43 = .ok (.dup, 1) := by decide +kernel
theorem dX10_quill_44 : decode cX10_quill 44 = .ok (.getfield 117, 3) := by decide +kernel
theorem dX10_quill_47 : decode cX10_quill 47 = .ok (.iconst 1, 1) := by decide +kernel
theorem dX10_quill_48 : decode cX10_quill 48 = .ok (.iadd, 1) := by decide +kernel
theorem dX10_quill_49 : decode cX10_quill 49 = .ok (.putfield 117, 3) := by decide +kernel
theorem dX10_quill_52 : decode cX10_quill 52 = .ok (.aload_n 0, 1) := by decide +kernel
theorem dX10_quill_53 : decode cX10_quill 53 = .ok (.getfield 117, 3) := by decide +kernel
theorem dX10_quill_56 : decode cX10_quill 56 = .ok (.ireturn, 1) := by decide +kernel
theorem dX10_blot_0 : decode cX10_blot 0 = .ok (.aload_n 0, 1) := by decide +kernel
theorem dX10_blot_1 : decode cX10_blot 1 = .ok (.iconst 0, 1) := by decide +kernel
theorem dX10_blot_2 : decode cX10_blot 2 = .ok (.putfield 66, 3) := by decide +kernel
theorem dX10_blot_5 : decode cX10_blot 5 = .ok (.aload_n 0, 1) := by decide +kernel
theorem dX10_blot_6 : decode cX10_blot 6 = .ok (.getfield 117, 3) := by decide +kernel
theorem dX10_blot_9 : decode cX10_blot 9 = .ok (.istore_n 1, 1) := by decide +kernel
theorem dX10_blot_10 : decode cX10_blot 10 = .ok (.aload_n 0, 1) := by decide +kernel
theorem dX10_blot_11 : decode cX10_blot 11 = .ok (.iconst 0, 1) := by decide +kernel
theorem dX10_blot_12 : decode cX10_blot 12 = .ok (.putfield 117, 3) := by decide +kernel
theorem dX10_blot_15 : decode cX10_blot 15 = .ok (.iload_n 1, 1) := by decide +kernel
theorem dX10_blot_16 : decode cX10_blot 16 = .ok (.ireturn, 1) := by decide +kernel
set_option maxRecDepth 20000 in
theorem ggX10_wants_X10_in : GoodIn wsX10_wants wsX10_in := goodIn_r _ [6] (by decide +kernel) (by decide +kernel)
set_option maxRecDepth 20000 in
theorem gX10_wants_X10_in : GoodIn wsX10_wants (va_wsS RX10 72 yX10_in wsX10_in) := goodIn_app (goodIn_of _ (by decide +kernel)) ggX10_wants_X10_in
theorem dX10_wants_0 : decode cX10_wants 0 = .ok (.iload_n 1, 1) := by decide +kernel
theorem dX10_wants_1 : decode cX10_wants 1 = .ok (.bipush 97, 2) := by decide +kernel
theorem dX10_wants_3 : decode cX10_wants 3 = .ok (.isub, 1) := by decide +kernel
theorem dX10_wants_4 : decode cX10_wants 4 = .ok (.i2l, 1) := by decide +kernel
theorem dX10_wants_5 : decode cX10_wants 5 = .ok (.lconst 0, 1) := by decide +kernel
theorem dX10_wants_6 : decode cX10_wants 6 = .ok (.aload_n 0, 1) := by decide +kernel
theorem dX10_wants_7 : decode cX10_wants 7 = .ok (.getfield 102, 3) := by decide +kernel
theorem dX10_wants_10 : decode cX10_wants 10 = .ok (.iconst 1, 1) := by decide +kernel
theorem dX10_wants_11 : decode cX10_wants 11 = .ok (.isub, 1) := by decide +kernel
theorem dX10_wants_12 : decode cX10_wants 12 = .ok (.i2l, 1) := by decide +kernel
theorem dX10_wants_13 : decode cX10_wants 13 = .ok (.invokestatic 72, 3) := by decide +kernel
theorem dX10_wants_16 : decode cX10_wants 16 = .ok (.ifCond .ne 30, 3) := by decide +kernel
theorem dX10_wants_19 : decode cX10_wants 19 = .ok (.iload_n 1, 1) := by decide +kernel
theorem dX10_wants_20 : decode cX10_wants 20 = .ok (.bipush 116, 2) := by decide +kernel
theorem dX10_wants_22 : decode cX10_wants 22 = .ok (.if_icmp .eq 24, 3) := by decide +kernel
theorem dX10_wants_25 : decode cX10_wants 25 = .ok (.iload_n 1, 1) := by decide +kernel
theorem dX10_wants_26 : decode cX10_wants 26 = .ok (.bipush 48, 2) := by decide +kernel
theorem dX10_wants_28 : decode cX10_wants 28 = .ok (.isub, 1) := by decide +kernel
theorem dX10_wants_29 : decode cX10_wants 29 = .ok (.i2l, 1) := by decide +kernel
theorem dX10_wants_30 : decode cX10_wants 30 = .ok (.lconst 0, 1) := by decide +kernel
theorem dX10_wants_31 : decode cX10_wants 31 = .ok (.ldc2_w 120, 3) := by decide +kernel
theorem dX10_wants_34 : decode cX10_wants 34 = .ok (.invokestatic 72, 3) := by decide +kernel
theorem dX10_wants_37 : decode cX10_wants 37 = .ok (.ifCond .ne 9, 3) := by decide +kernel
theorem dX10_wants_40 : decode cX10_wants 40 = .ok (.iload_n 1, 1) := by decide +kernel
theorem dX10_wants_41 : decode cX10_wants 41 = .ok (.bipush 121, 2) := by decide +kernel
theorem dX10_wants_43 : decode cX10_wants 43 = .ok (.if_icmp .ne 7, 3) := by decide +kernel
theorem dX10_wants_46 : decode cX10_wants 46 = .ok (.iconst 1, 1) := by decide +kernel
theorem dX10_wants_47 : decode cX10_wants 47 = .ok (.goto 4, 3) := by decide +kernel
theorem dX10_wants_50 : decode cX10_wants 50 = .ok (.iconst 0, 1) := by decide +kernel
theorem dX10_wants_51 : decode cX10_wants 51 = .ok (.istore_n 2, 1) := by decide +kernel
theorem dX10_wants_52 : decode cX10_wants 52 = .ok (.iload_n 2, 1) := by decide +kernel
theorem dX10_wants_53 : decode cX10_wants 53 = .ok (.ifCond .eq 7, 3) := by decide +kernel
theorem dX10_wants_56 : decode cX10_wants 56 = .ok (.iconst 0, 1) := by decide +kernel
theorem dX10_wants_57 : decode cX10_wants 57 = .ok (.goto 37, 3) := by decide +kernel
theorem dX10_wants_60 : decode cX10_wants 60 = .ok (.iload_n 1, 1) := by decide +kernel
theorem dX10_wants_61 : decode cX10_wants 61 = .ok (.bipush 110, 2) := by decide +kernel
theorem dX10_wants_63 : decode cX10_wants 63 = .ok (.if_icmp .ne 7, 3) := by decide +kernel
theorem dX10_wants_66 : decode cX10_wants 66 = .ok (.iconst 1, 1) := by decide +kernel
theorem dX10_wants_67 : decode cX10_wants 67 = .ok (.goto 27, 3) := by decide +kernel
theorem dX10_wants_70 : decode cX10_wants 70 = .ok (.iload_n 1, 1) := by decide +kernel
theorem dX10_wants_71 : decode cX10_wants 71 = .ok (.bipush 38, 2) := by decide +kernel
theorem dX10_wants_73 : decode cX10_wants 73 = .ok (.if_icmp .eq 15, 3) := by decide +kernel
theorem dX10_wants_76 : decode cX10_wants 76 = .ok (.iload_n 1, 1) := by decide +kernel
theorem dX10_wants_77 : decode cX10_wants 77 = .ok (.bipush 124, 2) := by decide +kernel
theorem dX10_wants_79 : decode cX10_wants 79 = .ok (.if_icmp .eq 9, 3) := by decide +kernel
theorem dX10_wants_82 : decode cX10_wants 82 = .ok (.iload_n 1, 1) := by decide +kernel
theorem dX10_wants_83 : decode cX10_wants 83 = .ok (.bipush 94, 2) := by decide +kernel
theorem dX10_wants_85 : decode cX10_wants 85 = .ok (.if_icmp .ne 7, 3) := by decide +kernel
theorem dX10_wants_88 : decode cX10_wants 88 = .ok (.iconst 2, 1) := by decide +kernel
theorem dX10_wants_89 : decode cX10_wants 89 = .ok (.goto 5, 3) := by decide +kernel
theorem dX10_wants_92 : decode cX10_wants 92 = .ok (.bipush (-9), 2) := by decide +kernel
theorem dX10_wants_94 : decode cX10_wants 94 = .ok (.ireturn, 1) := by decide +kernel
set_option maxRecDepth 20000 in
theorem ggX10_slipOf_X10_wants : GoodIn wsX10_slipOf wsX10_wants := goodIn_r _ [7, 8, 9, 10, 11, 6, 12, 13, 14, 15, 16, 17, 18, 19, 20, 21, 22, 23, 24, 25, 26, 27, 28, 29, 30, 31, 32, 33, 34, 35, 36, 37, 38, 39, 40, 41, 42, 43] (by decide +kernel) (by decide +kernel)
set_option maxRecDepth 20000 in
theorem gX10_slipOf_X10_wants : GoodIn wsX10_slipOf (wsV RX10 122 RX10 yX10_wants wsX10_wants) := goodIn_app (goodIn_of _ (by decide +kernel)) ggX10_slipOf_X10_wants
theorem dX10_slipOf_0 : decode cX10_slipOf 0 = .ok (.iconst 1, 1) := by decide +kernel
theorem dX10_slipOf_1 : decode cX10_slipOf 1 = .ok (.istore_n 1, 1) := by decide +kernel
theorem dX10_slipOf_2 : decode cX10_slipOf 2 = .ok (.iconst 0, 1) := by decide +kernel
theorem dX10_slipOf_3 : decode cX10_slipOf 3 = .ok (.istore_n 2, 1) := by decide +kernel
theorem dX10_slipOf_4 : decode cX10_slipOf 4 = .ok (.iload_n 2, 1) := by decide +kernel
theorem dX10_slipOf_5 : decode cX10_slipOf 5 = .ok (.aload_n 0, 1) := by decide +kernel
theorem dX10_slipOf_6 : decode cX10_slipOf 6 = .ok (.getfield 117, 3) := by decide +kernel
theorem dX10_slipOf_9 : decode cX10_slipOf 9 = .ok (.if_icmp .ge 38, 3) := by decide +kernel
theorem dX10_slipOf_12 : decode cX10_slipOf 12 = .ok (.aload_n 0, 1) := by decide +kernel
theorem dX10_slipOf_13 : decode cX10_slipOf 13 = .ok (.aload_n 0, 1) := by decide +kernel
theorem dX10_slipOf_14 : decode cX10_slipOf 14 = .ok (.getfield 13, 3) := by decide +kernel
theorem dX10_slipOf_17 : decode cX10_slipOf 17 = .ok (.iload_n 2, 1) := by decide +kernel
theorem dX10_slipOf_18 : decode cX10_slipOf 18 = .ok (.iaload, 1) := by decide +kernel
theorem dX10_slipOf_19 : decode cX10_slipOf 19 = .ok (.invokevirtual 122, 3) := by decide +kernel
theorem dX10_slipOf_22 : decode cX10_slipOf 22 = .ok (.istore_n 3, 1) := by decide +kernel
theorem dX10_slipOf_23 : decode cX10_slipOf 23 = .ok (.iload_n 1, 1) := by decide +kernel
theorem dX10_slipOf_24 : decode cX10_slipOf 24 = .ok (.ifCond .eq 9, 3) := by decide +kernel
theorem dX10_slipOf_27 : decode cX10_slipOf 27 = .ok (.iload_n 3, 1) := by decide +kernel
theorem dX10_slipOf_28 : decode cX10_slipOf 28 = .ok (.bipush (-9), 2) := by decide +kernel
theorem dX10_slipOf_30 : decode cX10_slipOf 30 = .ok (.if_icmp .ne 5, 3) := by decide +kernel
theorem dX10_slipOf_33 : decode cX10_slipOf 33 = .ok (.iload_n 2, 1) := by decide +kernel
theorem dX10_slipOf_34 : decode cX10_slipOf 34 = .ok (.ireturn, 1) := by decide +kernel
theorem dX10_slipOf_35 : decode cX10_slipOf 35 = .ok (.iload_n 1, 1) := by decide +kernel
theorem dX10_slipOf_36 : decode cX10_slipOf 36 = .ok (.iload_n 3, 1) := by decide +kernel
theorem dX10_slipOf_37 : decode cX10_slipOf 37 = .ok (.iconst 1, 1) := by decide +kernel
theorem dX10_slipOf_38 : decode cX10_slipOf 38 = .ok (.isub, 1) := by decide +kernel
theorem dX10_slipOf_39 : decode cX10_slipOf 39 = .ok (.iadd, 1) := by decide +kernel
theorem dX10_slipOf_40 : decode cX10_slipOf 40 = .ok (.istore_n 1, 1) := by decide +kernel
theorem dX10_slipOf_41 : decode cX10_slipOf 41 = .ok (.iinc 2 1, 3) := by decide +kernel
theorem dX10_slipOf_44 : decode cX10_slipOf 44 = .ok (.goto (-40), 3) := by decide +kernel
theorem dX10_slipOf_47 : decode cX10_slipOf 47 = .ok (.iload_n 1, 1) := by decide +kernel
theorem dX10_slipOf_48 : decode cX10_slipOf 48 = .ok (.ifCond .ne 8, 3) := by decide +kernel
theorem dX10_slipOf_51 : decode cX10_slipOf 51 = .ok (.bipush (-9), 2) := by decide +kernel
theorem dX10_slipOf_53 : decode cX10_slipOf 53 = .ok (.goto 7, 3) := by decide +kernel
theorem dX10_slipOf_56 : decode cX10_slipOf 56 = .ok (.aload_n 0, 1) := by decide +kernel
theorem dX10_slipOf_57 : decode cX10_slipOf 57 = .ok (.getfield 117, 3) := by decide +kernel
theorem dX10_slipOf_60 : decode cX10_slipOf 60 = .ok (.ireturn, 1) := by decide +kernel
set_option maxRecDepth 20000 in
theorem ggX10_slip_X10_slipOf : GoodIn wsX10_slip wsX10_slipOf := goodIn_r _ [6, 7, 8, 9, 10, 11, 5, 12, 13, 14, 15, 16, 17, 18, 19, 20, 21, 22, 23, 24, 25, 26, 27, 28, 29, 30, 31, 32, 33, 34, 35, 36, 37, 38, 39, 40, 41, 42, 43, 44, 45, 46, 47, 48] (by decide +kernel) (by decide +kernel)
set_option maxRecDepth 20000 in
theorem gX10_slip_X10_slipOf : GoodIn wsX10_slip (wsV RX10 126 RX10 yX10_slipOf wsX10_slipOf) := goodIn_app (goodIn_of _ (by decide +kernel)) ggX10_slip_X10_slipOf
theorem dX10_slip_0 : decode cX10_slip 0 = .ok (.aload_n 0, 1) := by decide +kernel
theorem dX10_slip_1 : decode cX10_slip 1 = .ok (.iconst 0, 1) := by decide +kernel
theorem dX10_slip_2 : decode cX10_slip 2 = .ok (.putfield 66, 3) := by decide +kernel
theorem dX10_slip_5 : decode cX10_slip 5 = .ok (.aload_n 0, 1) := by decide +kernel
theorem dX10_slip_6 : decode cX10_slip 6 = .ok (.invokevirtual 126, 3) := by decide +kernel
theorem dX10_slip_9 : decode cX10_slip 9 = .ok (.ireturn, 1) := by decide +kernel
theorem dX10_many_0 : decode cX10_many 0 = .ok (.iconst 0, 1) := by decide +kernel
theorem dX10_many_1 : decode cX10_many 1 = .ok (.istore_n 1, 1) := by decide +kernel
theorem dX10_many_2 : decode cX10_many 2 = .ok (.iconst 0, 1) := by decide +kernel
theorem dX10_many_3 : decode cX10_many 3 = .ok (.istore_n 2, 1) := by decide +kernel
theorem dX10_many_4 : decode cX10_many 4 = .ok (.iload_n 2, 1) := by decide +kernel
theorem dX10_many_5 : decode cX10_many 5 = .ok (.bipush 32, 2) := by decide +kernel
theorem dX10_many_7 : decode cX10_many 7 = .ok (.if_icmp .ge 17, 3) := by decide +kernel
theorem dX10_many_10 : decode cX10_many 10 = .ok (.iload_n 1, 1) := by decide +kernel
theorem dX10_many_11 : decode cX10_many 11 = .ok (.iload_n 0, 1) := by decide +kernel
theorem dX10_many_12 : decode cX10_many 12 = .ok (.iload_n 2, 1) := by decide +kernel
theorem dX10_many_13 : decode cX10_many 13 = .ok (.ishr, 1) := by decide +kernel
theorem dX10_many_14 : decode cX10_many 14 = .ok (.iconst 1, 1) := by decide +kernel
theorem dX10_many_15 : decode cX10_many 15 = .ok (.iand, 1) := by decide +kernel
theorem dX10_many_16 : decode cX10_many 16 = .ok (.iadd, 1) := by decide +kernel
theorem dX10_many_17 : decode cX10_many 17 = .ok (.istore_n 1, 1) := by decide +kernel
theorem dX10_many_18 : decode cX10_many 18 = .ok (.iinc 2 1, 3) := by decide +kernel
theorem dX10_many_21 : decode cX10_many 21 = .ok (.goto (-17), 3) := by decide +kernel
theorem dX10_many_24 : decode cX10_many 24 = .ok (.iload_n 1, 1) := by decide +kernel
theorem dX10_many_25 : decode cX10_many 25 = .ok (.ireturn, 1) := by decide +kernel
set_option maxRecDepth 20000 in
theorem ggX10_knownMany_X10_many : GoodIn wsX10_knownMany wsX10_many := goodIn_r _ [4] (by decide +kernel) (by decide +kernel)
set_option maxRecDepth 20000 in
theorem gX10_knownMany_X10_many : GoodIn wsX10_knownMany (va_wsS RX10 129 yX10_many wsX10_many) := goodIn_app (goodIn_of _ (by decide +kernel)) ggX10_knownMany_X10_many
theorem dX10_knownMany_0 : decode cX10_knownMany 0 = .ok (.iconst 0, 1) := by decide +kernel
theorem dX10_knownMany_1 : decode cX10_knownMany 1 = .ok (.istore_n 1, 1) := by decide +kernel
theorem dX10_knownMany_2 : decode cX10_knownMany 2 = .ok (.iconst 0, 1) := by decide +kernel
theorem dX10_knownMany_3 : decode cX10_knownMany 3 = .ok (.istore_n 2, 1) := by decide +kernel
