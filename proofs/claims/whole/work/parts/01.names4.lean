theorem dX10_knownMany_4 : decode cX10_knownMany 4 = .ok (.iload_n 2, 1) := by decide +kernel
theorem dX10_knownMany_5 : decode cX10_knownMany 5 = .ok (.bipush 7, 2) := by decide +kernel
theorem dX10_knownMany_7 : decode cX10_knownMany 7 = .ok (.if_icmp .ge 18, 3) := by decide +kernel
theorem dX10_knownMany_10 : decode cX10_knownMany 10 = .ok (.iload_n 1, 1) := by decide +kernel
theorem dX10_knownMany_11 : decode cX10_knownMany 11 = .ok (.aload_n 0, 1) := by decide +kernel
theorem dX10_knownMany_12 : decode cX10_knownMany 12 = .ok (.iload_n 2, 1) := by decide +kernel
theorem dX10_knownMany_13 : decode cX10_knownMany 13 = .ok (.iaload, 1) := by decide +kernel
theorem dX10_knownMany_14 : decode cX10_knownMany 14 = .ok (.invokestatic 129, 3) := by decide +kernel
theorem dX10_knownMany_17 : decode cX10_knownMany 17 = .ok (.iadd, 1) := by decide +kernel
theorem dX10_knownMany_18 : decode cX10_knownMany 18 = .ok (.istore_n 1, 1) := by decide +kernel
theorem dX10_knownMany_19 : decode cX10_knownMany 19 = .ok (.iinc 2 1, 3) := by decide +kernel
theorem dX10_knownMany_22 : decode cX10_knownMany 22 = .ok (.goto (-18), 3) := by decide +kernel
theorem dX10_knownMany_25 : decode cX10_knownMany 25 = .ok (.iload_n 1, 1) := by decide +kernel
theorem dX10_knownMany_26 : decode cX10_knownMany 26 = .ok (.ireturn, 1) := by decide +kernel
theorem dX10_daysOf_0 : decode cX10_daysOf 0 = .ok (.iconst 0, 1) := by decide +kernel
theorem dX10_daysOf_1 : decode cX10_daysOf 1 = .ok (.istore_n 1, 1) := by decide +kernel
theorem dX10_daysOf_2 : decode cX10_daysOf 2 = .ok (.iconst 0, 1) := by decide +kernel
theorem dX10_daysOf_3 : decode cX10_daysOf 3 = .ok (.istore_n 2, 1) := by decide +kernel
theorem dX10_daysOf_4 : decode cX10_daysOf 4 = .ok (.iload_n 2, 1) := by decide +kernel
theorem dX10_daysOf_5 : decode cX10_daysOf 5 = .ok (.bipush 7, 2) := by decide +kernel
theorem dX10_daysOf_7 : decode cX10_daysOf 7 = .ok (.if_icmp .ge 25, 3) := by decide +kernel
theorem dX10_daysOf_10 : decode cX10_daysOf 10 = .ok (.iload_n 1, 1) := by decide +kernel
theorem dX10_daysOf_11 : decode cX10_daysOf 11 = .ok (.aload_n 0, 1) := by decide +kernel
theorem dX10_daysOf_12 : decode cX10_daysOf 12 = .ok (.iload_n 2, 1) := by decide +kernel
theorem dX10_daysOf_13 : decode cX10_daysOf 13 = .ok (.iaload, 1) := by decide +kernel
theorem dX10_daysOf_14 : decode cX10_daysOf 14 = .ok (.ifCond .eq 9, 3) := by decide +kernel
theorem dX10_daysOf_17 : decode cX10_daysOf 17 = .ok (.iconst 1, 1) := by decide +kernel
theorem dX10_daysOf_18 : decode cX10_daysOf 18 = .ok (.iload_n 2, 1) := by decide +kernel
theorem dX10_daysOf_19 : decode cX10_daysOf 19 = .ok (.ishl, 1) := by decide +kernel
theorem dX10_daysOf_20 : decode cX10_daysOf 20 = .ok (.goto 4, 3) := by decide +kernel
theorem dX10_daysOf_23 : decode cX10_daysOf 23 = .ok (.iconst 0, 1) := by decide +kernel
theorem dX10_daysOf_24 : decode cX10_daysOf 24 = .ok (.ior, 1) := by decide +kernel
theorem dX10_daysOf_25 : decode cX10_daysOf 25 = .ok (.istore_n 1, 1) := by decide +kernel
theorem dX10_daysOf_26 : decode cX10_daysOf 26 = .ok (.iinc 2 1, 3) := by decide +kernel
theorem dX10_daysOf_29 : decode cX10_daysOf 29 = .ok (.goto (-25), 3) := by decide +kernel
theorem dX10_daysOf_32 : decode cX10_daysOf 32 = .ok (.iload_n 1, 1) := by decide +kernel
theorem dX10_daysOf_33 : decode cX10_daysOf 33 = .ok (.ireturn, 1) := by decide +kernel
set_option maxRecDepth 20000 in
theorem ggX10_about_X10_knownMany : GoodIn wsX10_about wsX10_knownMany := goodIn_r _ [11, 12, 13, 10, 14] (by decide +kernel) (by decide +kernel)
set_option maxRecDepth 20000 in
theorem gX10_about_X10_knownMany : GoodIn wsX10_about (va_wsS RX10 132 yX10_knownMany wsX10_knownMany) := goodIn_app (goodIn_of _ (by decide +kernel)) ggX10_about_X10_knownMany
set_option maxRecDepth 20000 in
theorem ggX10_about_X10_daysOf : GoodIn wsX10_about wsX10_daysOf := goodIn_r _ [17] (by decide +kernel) (by decide +kernel)
set_option maxRecDepth 20000 in
theorem gX10_about_X10_daysOf : GoodIn wsX10_about (va_wsS RX10 139 yX10_daysOf wsX10_daysOf) := goodIn_app (goodIn_of _ (by decide +kernel)) ggX10_about_X10_daysOf
theorem dX10_about_0 : decode cX10_about 0 = .ok (.aload_n 0, 1) := by decide +kernel
theorem dX10_about_1 : decode cX10_about 1 = .ok (.iconst 0, 1) := by decide +kernel
theorem dX10_about_2 : decode cX10_about 2 = .ok (.putfield 66, 3) := by decide +kernel
theorem dX10_about_5 : decode cX10_about 5 = .ok (.iload_n 1, 1) := by decide +kernel
theorem dX10_about_6 : decode cX10_about 6 = .ok (.tableswitch 143 0 11 #[62, 67, 75, 83, 91, 99, 107, 112, 117, 122, 127, 135], 62) := by decide +kernel
theorem dX10_about_68 : decode cX10_about 68 = .ok (.aload_n 0, 1) := by decide +kernel
theorem dX10_about_69 : decode cX10_about 69 = .ok (.getfield 102, 3) := by decide +kernel
theorem dX10_about_72 : decode cX10_about 72 = .ok (.ireturn, 1) := by decide +kernel
theorem dX10_about_73 : decode cX10_about 73 = .ok (.aload_n 0, 1) := by decide +kernel
theorem dX10_about_74 : decode cX10_about 74 = .ok (.getfield 16, 3) := by decide +kernel
theorem dX10_about_77 : decode cX10_about 77 = .ok (.bipush 7, 2) := by decide +kernel
theorem dX10_about_79 : decode cX10_about 79 = .ok (.iaload, 1) := by decide +kernel
theorem dX10_about_80 : decode cX10_about 80 = .ok (.ireturn, 1) := by decide +kernel
theorem dX10_about_81 : decode cX10_about 81 = .ok (.aload_n 0, 1) := by decide +kernel
theorem dX10_about_82 : decode cX10_about 82 = .ok (.getfield 16, 3) := by decide +kernel
theorem dX10_about_85 : decode cX10_about 85 = .ok (.invokestatic 132, 3) := by decide +kernel
theorem dX10_about_88 : decode cX10_about 88 = .ok (.ireturn, 1) := by decide +kernel
theorem dX10_about_89 : decode cX10_about 89 = .ok (.aload_n 0, 1) := by decide +kernel
theorem dX10_about_90 : decode cX10_about 90 = .ok (.getfield 16, 3) := by decide +kernel
theorem dX10_about_93 : decode cX10_about 93 = .ok (.bipush 9, 2) := by decide +kernel
theorem dX10_about_95 : decode cX10_about 95 = .ok (.iaload, 1) := by decide +kernel
theorem dX10_about_96 : decode cX10_about 96 = .ok (.ireturn, 1) := by decide +kernel
theorem dX10_about_97 : decode cX10_about 97 = .ok (.aload_n 0, 1) := by decide +kernel
theorem dX10_about_98 : decode cX10_about 98 = .ok (.getfield 16, 3) := by decide +kernel
theorem dX10_about_101 : decode cX10_about 101 = .ok (.bipush 10, 2) := by decide +kernel
theorem dX10_about_103 : decode cX10_about 103 = .ok (.iaload, 1) := by decide +kernel
theorem dX10_about_104 : decode cX10_about 104 = .ok (.ireturn, 1) := by decide +kernel
theorem dX10_about_105 : decode cX10_about 105 = .ok (.aload_n 0, 1) := by decide +kernel
theorem dX10_about_106 : decode cX10_about 106 = .ok (.getfield 16, 3) := by decide +kernel
theorem dX10_about_109 : decode cX10_about 109 = .ok (.bipush 11, 2) := by decide +kernel
theorem dX10_about_111 : decode cX10_about 111 = .ok (.iaload, 1) := by decide +kernel
theorem dX10_about_112 : decode cX10_about 112 = .ok (.ireturn, 1) := by decide +kernel
theorem dX10_about_113 : decode cX10_about 113 = .ok (.aload_n 0, 1) := by decide +kernel
theorem dX10_about_114 : decode cX10_about 114 = .ok (.getfield 114, 3) := by decide +kernel
theorem dX10_about_117 : decode cX10_about 117 = .ok (.ireturn, 1) := by decide +kernel
theorem dX10_about_118 : decode cX10_about 118 = .ok (.aload_n 0, 1) := by decide +kernel
theorem dX10_about_119 : decode cX10_about 119 = .ok (.getfield 136, 3) := by decide +kernel
theorem dX10_about_122 : decode cX10_about 122 = .ok (.ireturn, 1) := by decide +kernel
theorem dX10_about_123 : decode cX10_about 123 = .ok (.aload_n 0, 1) := by decide +kernel
theorem dX10_about_124 : decode cX10_about 124 = .ok (.getfield 76, 3) := by decide +kernel
theorem dX10_about_127 : decode cX10_about 127 = .ok (.ireturn, 1) := by decide +kernel
theorem dX10_about_128 : decode cX10_about 128 = .ok (.aload_n 0, 1) := by decide +kernel
theorem dX10_about_129 : decode cX10_about 129 = .ok (.getfield 117, 3) := by decide +kernel
theorem dX10_about_132 : decode cX10_about 132 = .ok (.ireturn, 1) := by decide +kernel
theorem dX10_about_133 : decode cX10_about 133 = .ok (.aload_n 0, 1) := by decide +kernel
theorem dX10_about_134 : decode cX10_about 134 = .ok (.getfield 16, 3) := by decide +kernel
theorem dX10_about_137 : decode cX10_about 137 = .ok (.invokestatic 139, 3) := by decide +kernel
theorem dX10_about_140 : decode cX10_about 140 = .ok (.ireturn, 1) := by decide +kernel
theorem dX10_about_141 : decode cX10_about 141 = .ok (.aload_n 0, 1) := by decide +kernel
theorem dX10_about_142 : decode cX10_about 142 = .ok (.getfield 16, 3) := by decide +kernel
theorem dX10_about_145 : decode cX10_about 145 = .ok (.bipush 8, 2) := by decide +kernel
theorem dX10_about_147 : decode cX10_about 147 = .ok (.iaload, 1) := by decide +kernel
theorem dX10_about_148 : decode cX10_about 148 = .ok (.ireturn, 1) := by decide +kernel
theorem dX10_about_149 : decode cX10_about 149 = .ok (.bipush (-2), 2) := by decide +kernel
theorem dX10_about_151 : decode cX10_about 151 = .ok (.ireturn, 1) := by decide +kernel
theorem dX10_tellsFact_0 : decode cX10_tellsFact 0 = .ok (.iconst 0, 1) := by decide +kernel
theorem dX10_tellsFact_1 : decode cX10_tellsFact 1 = .ok (.istore_n 3, 1) := by decide +kernel
theorem dX10_tellsFact_2 : decode cX10_tellsFact 2 = .ok (.iconst 0, 1) := by decide +kernel
theorem dX10_tellsFact_3 : decode cX10_tellsFact 3 = .ok (.istore 4, 2) := by decide +kernel
theorem dX10_tellsFact_5 : decode cX10_tellsFact 5 = .ok (.iconst 0, 1) := by decide +kernel
theorem dX10_tellsFact_6 : decode cX10_tellsFact 6 = .ok (.istore 5, 2) := by decide +kernel
theorem dX10_tellsFact_8 : decode cX10_tellsFact 8 = .ok (.iload 5, 2) := by decide +kernel
theorem dX10_tellsFact_10 : decode cX10_tellsFact 10 = .ok (.bipush 7, 2) := by decide +kernel
theorem dX10_tellsFact_12 : decode cX10_tellsFact 12 = .ok (.if_icmp .ge 61, 3) := by decide +kernel
theorem dX10_tellsFact_15 : decode cX10_tellsFact 15 = .ok (.iload_n 3, 1) := by decide +kernel
theorem dX10_tellsFact_16 : decode cX10_tellsFact 16 = .ok (.ifCond .ne 17, 3) := by decide +kernel
theorem dX10_tellsFact_19 : decode cX10_tellsFact 19 = .ok (.aload_n 1, 1) := by decide +kernel
theorem dX10_tellsFact_20 : decode cX10_tellsFact 20 = .ok (.iload 5, 2) := by decide +kernel
theorem dX10_tellsFact_22 : decode cX10_tellsFact 22 = .ok (.iaload, 1) := by decide +kernel
theorem dX10_tellsFact_23 : decode cX10_tellsFact 23 = .ok (.aload_n 0, 1) := by decide +kernel
theorem dX10_tellsFact_24 : decode cX10_tellsFact 24 = .ok (.getfield 48, 3) := by decide +kernel
theorem dX10_tellsFact_27 : decode cX10_tellsFact 27 = .ok (.iload_n 2, 1) := by decide +kernel
theorem dX10_tellsFact_28 : decode cX10_tellsFact 28 = .ok (.iaload, 1) := by decide +kernel
theorem dX10_tellsFact_29 : decode cX10_tellsFact 29 = .ok (.iand, 1) := by decide +kernel
theorem dX10_tellsFact_30 : decode cX10_tellsFact 30 = .ok (.ifCond .eq 7, 3) := by decide +kernel
theorem dX10_tellsFact_33 : decode cX10_tellsFact 33 = .ok (.iconst 1, 1) := by decide +kernel
theorem dX10_tellsFact_34 : decode cX10_tellsFact 34 = .ok (.goto 4, 3) := by decide +kernel
theorem dX10_tellsFact_37 : decode cX10_tellsFact 37 = .ok (.iconst 0, 1) := by decide +kernel
theorem dX10_tellsFact_38 : decode cX10_tellsFact 38 = .ok (.istore_n 3, 1) := by decide +kernel
theorem dX10_tellsFact_39 : decode cX10_tellsFact 39 = .ok (.iload 4, 2) := by decide +kernel
theorem dX10_tellsFact_41 : decode cX10_tellsFact 41 = .ok (.ifCond .ne 19, 3) := by decide +kernel
theorem dX10_tellsFact_44 : decode cX10_tellsFact 44 = .ok (.aload_n 1, 1) := by decide +kernel
theorem dX10_tellsFact_45 : decode cX10_tellsFact 45 = .ok (.iload 5, 2) := by decide +kernel
theorem dX10_tellsFact_47 : decode cX10_tellsFact 47 = .ok (.iaload, 1) := by decide +kernel
theorem dX10_tellsFact_48 : decode cX10_tellsFact 48 = .ok (.aload_n 0, 1) := by decide +kernel
theorem dX10_tellsFact_49 : decode cX10_tellsFact 49 = .ok (.getfield 48, 3) := by decide +kernel
theorem dX10_tellsFact_52 : decode cX10_tellsFact 52 = .ok (.iload_n 2, 1) := by decide +kernel
theorem dX10_tellsFact_53 : decode cX10_tellsFact 53 = .ok (.iaload, 1) := by decide +kernel
theorem dX10_tellsFact_54 : decode cX10_tellsFact 54 = .ok (.iconst (-1), 1) := by decide +kernel
theorem dX10_tellsFact_55 : decode cX10_tellsFact 55 = .ok (.ixor, 1) := by decide +kernel
theorem dX10_tellsFact_56 : decode cX10_tellsFact 56 = .ok (.iand, 1) := by decide +kernel
theorem dX10_tellsFact_57 : decode cX10_tellsFact 57 = .ok (.ifCond .eq 7, 3) := by decide +kernel
theorem dX10_tellsFact_60 : decode cX10_tellsFact 60 = .ok (.iconst 1, 1) := by decide +kernel
theorem dX10_tellsFact_61 : decode cX10_tellsFact 61 = .ok (.goto 4, 3) := by decide +kernel
theorem dX10_tellsFact_64 : decode cX10_tellsFact 64 = .ok (.iconst 0, 1) := by decide +kernel
theorem dX10_tellsFact_65 : decode cX10_tellsFact 65 = .ok (.istore 4, 2) := by decide +kernel
theorem dX10_tellsFact_67 : decode cX10_tellsFact 67 = .ok (.iinc 5 1, 3) := by decide +kernel
theorem dX10_tellsFact_70 : decode cX10_tellsFact 70 = .ok (.goto (-62), 3) := by decide +kernel
theorem dX10_tellsFact_73 : decode cX10_tellsFact 73 = .ok (.iload_n 3, 1) := by decide +kernel
theorem dX10_tellsFact_74 : decode cX10_tellsFact 74 = .ok (.ifCond .eq 13, 3) := by decide +kernel
theorem dX10_tellsFact_77 : decode cX10_tellsFact 77 = .ok (.iload 4, 2) := by decide +kernel
theorem dX10_tellsFact_79 : decode cX10_tellsFact 79 = .ok (.ifCond .eq 8, 3) := by decide +kernel
theorem dX10_tellsFact_82 : decode cX10_tellsFact 82 = .ok (.bipush (-9), 2) := by decide +kernel
theorem dX10_tellsFact_84 : decode cX10_tellsFact 84 = .ok (.goto 12, 3) := by decide +kernel
theorem dX10_tellsFact_87 : decode cX10_tellsFact 87 = .ok (.iload_n 3, 1) := by decide +kernel
theorem dX10_tellsFact_88 : decode cX10_tellsFact 88 = .ok (.ifCond .eq 7, 3) := by decide +kernel
theorem dX10_tellsFact_91 : decode cX10_tellsFact 91 = .ok (.iconst 1, 1) := by decide +kernel
theorem dX10_tellsFact_92 : decode cX10_tellsFact 92 = .ok (.goto 4, 3) := by decide +kernel
theorem dX10_tellsFact_95 : decode cX10_tellsFact 95 = .ok (.iconst 0, 1) := by decide +kernel
theorem dX10_tellsFact_96 : decode cX10_tellsFact 96 = .ok (.ireturn, 1) := by decide +kernel
set_option maxRecDepth 20000 in
theorem ggX10_fact_X10_in : GoodIn wsX10_fact wsX10_in := goodIn_r _ [9] (by decide +kernel) (by decide +kernel)
set_option maxRecDepth 20000 in
theorem gX10_fact_X10_in : GoodIn wsX10_fact (va_wsS RX10 72 yX10_in wsX10_in) := goodIn_app (goodIn_of _ (by decide +kernel)) ggX10_fact_X10_in
set_option maxRecDepth 20000 in
theorem ggX10_fact_X10_tellsFact : GoodIn wsX10_fact wsX10_tellsFact := goodIn_r _ [13, 14, 15, 16, 17, 18, 19, 20, 21, 22, 23, 24, 25, 26, 27, 28, 29, 30, 31, 32, 33, 34, 35, 36, 37, 38, 39, 40, 41, 42, 43, 44, 45] (by decide +kernel) (by decide +kernel)
set_option maxRecDepth 20000 in
theorem gX10_fact_X10_tellsFact : GoodIn wsX10_fact (wsV RX10 142 RX10 yX10_tellsFact wsX10_tellsFact) := goodIn_app (goodIn_of _ (by decide +kernel)) ggX10_fact_X10_tellsFact
theorem dX10_fact_0 : decode cX10_fact 0 = .ok (.aload_n 0, 1) := by decide +kernel
theorem dX10_fact_1 : decode cX10_fact 1 = .ok (.iconst 0, 1) := by decide +kernel
theorem dX10_fact_2 : decode cX10_fact 2 = .ok (.putfield 66, 3) := by decide +kernel
theorem dX10_fact_5 : decode cX10_fact 5 = .ok (.iload_n 1, 1) := by decide +kernel
theorem dX10_fact_6 : decode cX10_fact 6 = .ok (.i2l, 1) := by decide +kernel
theorem dX10_fact_7 : decode cX10_fact 7 = .ok (.lconst 0, 1) := by decide +kernel
theorem dX10_fact_8 : decode cX10_fact 8 = .ok (.aload_n 0, 1) := by decide +kernel
theorem dX10_fact_9 : decode cX10_fact 9 = .ok (.getfield 102, 3) := by decide +kernel
theorem dX10_fact_12 : decode cX10_fact 12 = .ok (.iconst 1, 1) := by decide +kernel
theorem dX10_fact_13 : decode cX10_fact 13 = .ok (.isub, 1) := by decide +kernel
theorem dX10_fact_14 : decode cX10_fact 14 = .ok (.i2l, 1) := by decide +kernel
theorem dX10_fact_15 : decode cX10_fact 15 = .ok (.invokestatic 72, 3) := by decide +kernel
theorem dX10_fact_18 : decode cX10_fact 18 = .ok (.ifCond .ne 5, 3) := by decide +kernel
theorem dX10_fact_21 : decode cX10_fact 21 = .ok (.iconst (-1), 1) := by decide +kernel
theorem dX10_fact_22 : decode cX10_fact 22 = .ok (.ireturn, 1) := by decide +kernel
theorem dX10_fact_23 : decode cX10_fact 23 = .ok (.iload_n 2, 1) := by decide +kernel
theorem dX10_fact_24 : decode cX10_fact 24 = .ok (.tableswitch 56 0 2 #[28, 37, 46], 28) := by decide +kernel
theorem dX10_fact_52 : decode cX10_fact 52 = .ok (.aload_n 0, 1) := by decide +kernel
theorem dX10_fact_53 : decode cX10_fact 53 = .ok (.getfield 105, 3) := by decide +kernel
theorem dX10_fact_56 : decode cX10_fact 56 = .ok (.iload_n 1, 1) := by decide +kernel
theorem dX10_fact_57 : decode cX10_fact 57 = .ok (.ishr, 1) := by decide +kernel
theorem dX10_fact_58 : decode cX10_fact 58 = .ok (.iconst 1, 1) := by decide +kernel
theorem dX10_fact_59 : decode cX10_fact 59 = .ok (.iand, 1) := by decide +kernel
theorem dX10_fact_60 : decode cX10_fact 60 = .ok (.ireturn, 1) := by decide +kernel
theorem dX10_fact_61 : decode cX10_fact 61 = .ok (.aload_n 0, 1) := by decide +kernel
theorem dX10_fact_62 : decode cX10_fact 62 = .ok (.getfield 108, 3) := by decide +kernel
theorem dX10_fact_65 : decode cX10_fact 65 = .ok (.iload_n 1, 1) := by decide +kernel
theorem dX10_fact_66 : decode cX10_fact 66 = .ok (.ishr, 1) := by decide +kernel
theorem dX10_fact_67 : decode cX10_fact 67 = .ok (.iconst 1, 1) := by decide +kernel
theorem dX10_fact_68 : decode cX10_fact 68 = .ok (.iand, 1) := by decide +kernel
theorem dX10_fact_69 : decode cX10_fact 69 = .ok (.ireturn, 1) := by decide +kernel
theorem dX10_fact_70 : decode cX10_fact 70 = .ok (.aload_n 0, 1) := by decide +kernel
theorem dX10_fact_71 : decode cX10_fact 71 = .ok (.aload_n 0, 1) := by decide +kernel
theorem dX10_fact_72 : decode cX10_fact 72 = .ok (.getfield 16, 3) := by decide +kernel
theorem dX10_fact_75 : decode cX10_fact 75 = .ok (.iload_n 1, 1) := by decide +kernel
theorem dX10_fact_76 : decode cX10_fact 76 = .ok (.invokevirtual 142, 3) := by decide +kernel
theorem dX10_fact_79 : decode cX10_fact 79 = .ok (.ireturn, 1) := by decide +kernel
theorem dX10_fact_80 : decode cX10_fact 80 = .ok (.bipush (-2), 2) := by decide +kernel
theorem dX10_fact_82 : decode cX10_fact 82 = .ok (.ireturn, 1) := by decide +kernel
set_option maxRecDepth 20000 in
theorem ggX10_isQuestion_X10_wants : GoodIn wsX10_isQuestion wsX10_wants := goodIn_r _ [8, 9, 10, 11, 12, 7, 13, 17, 18, 19, 20, 21, 22, 23, 24, 25, 26, 27, 28, 29, 30, 31, 32, 33, 34, 35, 36, 37, 38, 39, 40, 41, 42, 43, 44, 45, 46, 47] (by decide +kernel) (by decide +kernel)
set_option maxRecDepth 20000 in
theorem gX10_isQuestion_X10_wants : GoodIn wsX10_isQuestion (wsV RX10 122 RX10 yX10_wants wsX10_wants) := goodIn_app (goodIn_of _ (by decide +kernel)) ggX10_isQuestion_X10_wants
set_option maxRecDepth 20000 in
theorem ggX10_isQuestion_X10_has : GoodIn wsX10_isQuestion wsX10_has := goodIn_r _ [16] (by decide +kernel) (by decide +kernel)
set_option maxRecDepth 20000 in
theorem gX10_isQuestion_X10_has : GoodIn wsX10_isQuestion (va_wsS RX10 146 yX10_has wsX10_has) := goodIn_app (goodIn_of _ (by decide +kernel)) ggX10_isQuestion_X10_has
theorem dX10_isQuestion_0 : decode cX10_isQuestion 0 = .ok (.iconst 0, 1) := by decide +kernel
theorem dX10_isQuestion_1 : decode cX10_isQuestion 1 = .ok (.istore 5, 2) := by decide +kernel
theorem dX10_isQuestion_3 : decode cX10_isQuestion 3 = .ok (.aload_n 0, 1) := by decide +kernel
theorem dX10_isQuestion_4 : decode cX10_isQuestion 4 = .ok (.getfield 117, 3) := by decide +kernel
theorem dX10_isQuestion_7 : decode cX10_isQuestion 7 = .ok (.iconst 1, 1) := by decide +kernel
theorem dX10_isQuestion_8 : decode cX10_isQuestion 8 = .ok (.isub, 1) := by decide +kernel
theorem dX10_isQuestion_9 : decode cX10_isQuestion 9 = .ok (.istore 6, 2) := by decide +kernel
theorem dX10_isQuestion_11 : decode cX10_isQuestion 11 = .ok (.iload 6, 2) := by decide +kernel
theorem dX10_isQuestion_13 : decode cX10_isQuestion 13 = .ok (.ifCond .lt 241, 3) := by decide +kernel
theorem dX10_isQuestion_16 : decode cX10_isQuestion 16 = .ok (.aload_n 0, 1) := by decide +kernel
theorem dX10_isQuestion_17 : decode cX10_isQuestion 17 = .ok (.getfield 13, 3) := by decide +kernel
theorem dX10_isQuestion_20 : decode cX10_isQuestion 20 = .ok (.iload 6, 2) := by decide +kernel
theorem dX10_isQuestion_22 : decode cX10_isQuestion 22 = .ok (.iaload, 1) := by decide +kernel
theorem dX10_isQuestion_23 : decode cX10_isQuestion 23 = .ok (.istore 7, 2) := by decide +kernel
theorem dX10_isQuestion_25 : decode cX10_isQuestion 25 = .ok (.iload 7, 2) := by decide +kernel
theorem dX10_isQuestion_27 : decode cX10_isQuestion 27 = .ok (.bipush 110, 2) := by decide +kernel
theorem dX10_isQuestion_29 : decode cX10_isQuestion 29 = .ok (.if_icmp .ne 32, 3) := by decide +kernel
theorem dX10_isQuestion_32 : decode cX10_isQuestion 32 = .ok (.aload_n 0, 1) := by decide +kernel
theorem dX10_isQuestion_33 : decode cX10_isQuestion 33 = .ok (.getfield 51, 3) := by decide +kernel
theorem dX10_isQuestion_36 : decode cX10_isQuestion 36 = .ok (.iload 5, 2) := by decide +kernel
theorem dX10_isQuestion_38 : decode cX10_isQuestion 38 = .ok (.iconst 1, 1) := by decide +kernel
theorem dX10_isQuestion_39 : decode cX10_isQuestion 39 = .ok (.isub, 1) := by decide +kernel
theorem dX10_isQuestion_40 : decode cX10_isQuestion 40 = .ok (.aload_n 0, 1) := by decide +kernel
theorem dX10_isQuestion_41 : decode cX10_isQuestion 41 = .ok (.getfield 51, 3) := by decide +kernel
theorem dX10_isQuestion_44 : decode cX10_isQuestion 44 = .ok (.iload 5, 2) := by decide +kernel
theorem dX10_isQuestion_46 : decode cX10_isQuestion 46 = .ok (.iconst 1, 1) := by decide +kernel
theorem dX10_isQuestion_47 : decode cX10_isQuestion 47 = .ok (.isub, 1) := by decide +kernel
theorem dX10_isQuestion_48 : decode cX10_isQuestion 48 = .ok (.baload, 1) := by decide +kernel
theorem dX10_isQuestion_49 : decode cX10_isQuestion 49 = .ok (.ifCond .ne 7, 3) := by decide +kernel
theorem dX10_isQuestion_52 : decode cX10_isQuestion 52 = .ok (.iconst 1, 1) := by decide +kernel
theorem dX10_isQuestion_53 : decode cX10_isQuestion 53 = .ok (.goto 4, 3) := by decide +kernel
theorem dX10_isQuestion_56 : decode cX10_isQuestion 56 = .ok (.iconst 0, 1) := by decide +kernel
theorem dX10_isQuestion_57 : decode cX10_isQuestion 57 = .ok (.bastore, 1) := by decide +kernel
theorem dX10_isQuestion_58 : decode cX10_isQuestion 58 = .ok (.goto 190, 3) := by decide +kernel
theorem dX10_isQuestion_61 : decode cX10_isQuestion 61 = .ok (.aload_n 0, 1) := by decide +kernel
theorem dX10_isQuestion_62 : decode cX10_isQuestion 62 = .ok (.iload 7, 2) := by decide +kernel
theorem dX10_isQuestion_64 : decode cX10_isQuestion 64 = .ok (.invokevirtual 122, 3) := by decide +kernel
theorem dX10_isQuestion_67 : decode cX10_isQuestion 67 = .ok (.iconst 2, 1) := by decide +kernel
theorem dX10_isQuestion_68 : decode cX10_isQuestion 68 = .ok (.if_icmp .ne 102, 3) := by decide +kernel
theorem dX10_isQuestion_71 : decode cX10_isQuestion 71 = .ok (.aload_n 0, 1) := by decide +kernel
theorem dX10_isQuestion_72 : decode cX10_isQuestion 72 = .ok (.getfield 51, 3) := by decide +kernel
theorem dX10_isQuestion_75 : decode cX10_isQuestion 75 = .ok (.iload 5, 2) := by decide +kernel
theorem dX10_isQuestion_77 : decode cX10_isQuestion 77 = .ok (.iconst 1, 1) := by decide +kernel
theorem dX10_isQuestion_78 : decode cX10_isQuestion 78 = .ok (.isub, 1) := by decide +kernel
theorem dX10_isQuestion_79 : decode cX10_isQuestion 79 = .ok (.baload, 1) := by decide +kernel
theorem dX10_isQuestion_80 : decode cX10_isQuestion 80 = .ok (.istore 8, 2) := by decide +kernel
theorem dX10_isQuestion_82 : decode cX10_isQuestion 82 = .ok (.aload_n 0, 1) := by decide +kernel
theorem dX10_isQuestion_83 : decode cX10_isQuestion 83 = .ok (.getfield 51, 3) := by decide +kernel
theorem dX10_isQuestion_86 : decode cX10_isQuestion 86 = .ok (.iload 5, 2) := by decide +kernel
theorem dX10_isQuestion_88 : decode cX10_isQuestion 88 = .ok (.iconst 2, 1) := by decide +kernel
theorem dX10_isQuestion_89 : decode cX10_isQuestion 89 = .ok (.isub, 1) := by decide +kernel
theorem dX10_isQuestion_90 : decode cX10_isQuestion 90 = .ok (.baload, 1) := by decide +kernel
theorem dX10_isQuestion_91 : decode cX10_isQuestion 91 = .ok (.istore 9, 2) := by decide +kernel
theorem dX10_isQuestion_93 : decode cX10_isQuestion 93 = .ok (.iinc 5 (-1), 3) := by decide +kernel
theorem dX10_isQuestion_96 : decode cX10_isQuestion 96 = .ok (.aload_n 0, 1) := by decide +kernel
theorem dX10_isQuestion_97 : decode cX10_isQuestion 97 = .ok (.getfield 51, 3) := by decide +kernel
theorem dX10_isQuestion_100 : decode cX10_isQuestion 100 = .ok (.iload 5, 2) := by decide +kernel
theorem dX10_isQuestion_102 : decode cX10_isQuestion 102 = .ok (.iconst 1, 1) := by decide +kernel
theorem dX10_isQuestion_103 : decode cX10_isQuestion 103 = .ok (.isub, 1) := by decide +kernel
theorem dX10_isQuestion_104 : decode cX10_isQuestion 104 = .ok (.iload 7, 2) := by decide +kernel
theorem dX10_isQuestion_106 : decode cX10_isQuestion 106 = .ok (.bipush 38, 2) := by decide +kernel
theorem dX10_isQuestion_108 : decode cX10_isQuestion 108 = .ok (.if_icmp .ne 21, 3) := by decide +kernel
theorem dX10_isQuestion_111 : decode cX10_isQuestion 111 = .ok (.iload 8, 2) := by decide +kernel
theorem dX10_isQuestion_113 : decode cX10_isQuestion 113 = .ok (.ifCond .eq 12, 3) := by decide +kernel
theorem dX10_isQuestion_116 : decode cX10_isQuestion 116 = .ok (.iload 9, 2) := by decide +kernel
theorem dX10_isQuestion_118 : decode cX10_isQuestion 118 = .ok (.ifCond .eq 7, 3) := by decide +kernel
theorem dX10_isQuestion_121 : decode cX10_isQuestion 121 = .ok (.iconst 1, 1) := by decide +kernel
theorem dX10_isQuestion_122 : decode cX10_isQuestion 122 = .ok (.goto 44, 3) := by decide +kernel
theorem dX10_isQuestion_125 : decode cX10_isQuestion 125 = .ok (.iconst 0, 1) := by decide +kernel
theorem dX10_isQuestion_126 : decode cX10_isQuestion 126 = .ok (.goto 40, 3) := by decide +kernel
theorem dX10_isQuestion_129 : decode cX10_isQuestion 129 = .ok (.iload 7, 2) := by decide +kernel
theorem dX10_isQuestion_131 : decode cX10_isQuestion 131 = .ok (.bipush 124, 2) := by decide +kernel
theorem dX10_isQuestion_133 : decode cX10_isQuestion 133 = .ok (.if_icmp .ne 21, 3) := by decide +kernel
theorem dX10_isQuestion_136 : decode cX10_isQuestion 136 = .ok (.iload 8, 2) := by decide +kernel
theorem dX10_isQuestion_138 : decode cX10_isQuestion 138 = .ok (.ifCond .ne 8, 3) := by decide +kernel
theorem dX10_isQuestion_141 : decode cX10_isQuestion 141 = .ok (.iload 9, 2) := by decide +kernel
theorem dX10_isQuestion_143 : decode cX10_isQuestion 143 = .ok (.ifCond .eq 7, 3) := by decide +kernel
theorem dX10_isQuestion_146 : decode cX10_isQuestion 146 = .ok (.iconst 1, 1) := by decide +kernel
theorem dX10_isQuestion_147 : decode cX10_isQuestion 147 = .ok (.goto 19, 3) := by decide +kernel
theorem dX10_isQuestion_150 : decode cX10_isQuestion 150 = .ok (.iconst 0, 1) := by decide +kernel
theorem dX10_isQuestion_151 : decode cX10_isQuestion 151 = .ok (.goto 15, 3) := by decide +kernel
theorem dX10_isQuestion_154 : decode cX10_isQuestion 154 = .ok (.iload 8, 2) := by decide +kernel
theorem dX10_isQuestion_156 : decode cX10_isQuestion 156 = .ok (.iload 9, 2) := by decide +kernel
theorem dX10_isQuestion_158 : decode cX10_isQuestion 158 = .ok (.if_icmp .eq 7, 3) := by decide +kernel
theorem dX10_isQuestion_161 : decode cX10_isQuestion 161 = .ok (.iconst 1, 1) := by decide +kernel
theorem dX10_isQuestion_162 : decode cX10_isQuestion 162 = .ok (.goto 4, 3) := by decide +kernel
theorem dX10_isQuestion_165 : decode cX10_isQuestion 165 = .ok (.iconst 0, 1) := by decide +kernel
theorem dX10_isQuestion_166 : decode cX10_isQuestion 166 = .ok (.bastore, 1) := by decide +kernel
theorem dX10_isQuestion_167 : decode cX10_isQuestion 167 = .ok (.goto 81, 3) := by decide +kernel
theorem dX10_isQuestion_170 : decode cX10_isQuestion 170 = .ok (.aload_n 0, 1) := by decide +kernel
theorem dX10_isQuestion_171 : decode cX10_isQuestion 171 = .ok (.getfield 51, 3) := by decide +kernel
theorem dX10_isQuestion_174 : decode cX10_isQuestion 174 = .ok (.iload 5, 2) := by decide +kernel
theorem dX10_isQuestion_176 : decode cX10_isQuestion 176 = .ok (.iload 7, 2) := by decide +kernel
theorem dX10_isQuestion_178 : decode cX10_isQuestion 178 = .ok (.bipush 116, 2) := by decide +kernel
theorem dX10_isQuestion_180 : decode cX10_isQuestion 180 = .ok (.if_icmp .ne 19, 3) := by decide +kernel
theorem dX10_isQuestion_183 : decode cX10_isQuestion 183 = .ok (.iload_n 1, 1) := by decide +kernel
theorem dX10_isQuestion_184 : decode cX10_isQuestion 184 = .ok (.bipush 7, 2) := by decide +kernel
theorem dX10_isQuestion_186 : decode cX10_isQuestion 186 = .ok (.irem, 1) := by decide +kernel
theorem dX10_isQuestion_187 : decode cX10_isQuestion 187 = .ok (.iload_n 2, 1) := by decide +kernel
theorem dX10_isQuestion_188 : decode cX10_isQuestion 188 = .ok (.if_icmp .ne 7, 3) := by decide +kernel
theorem dX10_isQuestion_191 : decode cX10_isQuestion 191 = .ok (.iconst 1, 1) := by decide +kernel
theorem dX10_isQuestion_192 : decode cX10_isQuestion 192 = .ok (.goto 52, 3) := by decide +kernel
theorem dX10_isQuestion_195 : decode cX10_isQuestion 195 = .ok (.iconst 0, 1) := by decide +kernel
theorem dX10_isQuestion_196 : decode cX10_isQuestion 196 = .ok (.goto 48, 3) := by decide +kernel
theorem dX10_isQuestion_199 : decode cX10_isQuestion 199 = .ok (.iload 7, 2) := by decide +kernel
theorem dX10_isQuestion_201 : decode cX10_isQuestion 201 = .ok (.bipush 121, 2) := by decide +kernel
theorem dX10_isQuestion_203 : decode cX10_isQuestion 203 = .ok (.if_icmp .ne 8, 3) := by decide +kernel
theorem dX10_isQuestion_206 : decode cX10_isQuestion 206 = .ok (.iload 4, 2) := by decide +kernel
theorem dX10_isQuestion_208 : decode cX10_isQuestion 208 = .ok (.goto 36, 3) := by decide +kernel
theorem dX10_isQuestion_211 : decode cX10_isQuestion 211 = .ok (.iload 7, 2) := by decide +kernel
theorem dX10_isQuestion_213 : decode cX10_isQuestion 213 = .ok (.bipush 97, 2) := by decide +kernel
theorem dX10_isQuestion_215 : decode cX10_isQuestion 215 = .ok (.if_icmp .lt 15, 3) := by decide +kernel
theorem dX10_isQuestion_218 : decode cX10_isQuestion 218 = .ok (.iload_n 3, 1) := by decide +kernel
theorem dX10_isQuestion_219 : decode cX10_isQuestion 219 = .ok (.iload 7, 2) := by decide +kernel
theorem dX10_isQuestion_221 : decode cX10_isQuestion 221 = .ok (.bipush 97, 2) := by decide +kernel
theorem dX10_isQuestion_223 : decode cX10_isQuestion 223 = .ok (.isub, 1) := by decide +kernel
theorem dX10_isQuestion_224 : decode cX10_isQuestion 224 = .ok (.invokestatic 146, 3) := by decide +kernel
theorem dX10_isQuestion_227 : decode cX10_isQuestion 227 = .ok (.goto 17, 3) := by decide +kernel
theorem dX10_isQuestion_230 : decode cX10_isQuestion 230 = .ok (.iload_n 2, 1) := by decide +kernel
theorem dX10_isQuestion_231 : decode cX10_isQuestion 231 = .ok (.iload 7, 2) := by decide +kernel
theorem dX10_isQuestion_233 : decode cX10_isQuestion 233 = .ok (.bipush 48, 2) := by decide +kernel
theorem dX10_isQuestion_235 : decode cX10_isQuestion 235 = .ok (.isub, 1) := by decide +kernel
theorem dX10_isQuestion_236 : decode cX10_isQuestion 236 = .ok (.if_icmp .ne 7, 3) := by decide +kernel
theorem dX10_isQuestion_239 : decode cX10_isQuestion 239 = .ok (.iconst 1, 1) := by decide +kernel
theorem dX10_isQuestion_240 : decode cX10_isQuestion 240 = .ok (.goto 4, 3) := by decide +kernel
theorem dX10_isQuestion_243 : decode cX10_isQuestion 243 = .ok (.iconst 0, 1) := by decide +kernel
theorem dX10_isQuestion_244 : decode cX10_isQuestion 244 = .ok (.bastore, 1) := by decide +kernel
theorem dX10_isQuestion_245 : decode cX10_isQuestion 245 = .ok (.iinc 5 1, 3) := by decide +kernel
theorem dX10_isQuestion_248 : decode cX10_isQuestion 248 = .ok (.iinc 6 (-1), 3) := by decide +kernel
theorem dX10_isQuestion_251 : decode cX10_isQuestion 251 = .ok (.goto (-240), 3) := by decide +kernel
theorem dX10_isQuestion_254 : decode cX10_isQuestion 254 = .ok (.aload_n 0, 1) := by decide +kernel
theorem dX10_isQuestion_255 : decode cX10_isQuestion 255 = .ok (.getfield 51, 3) := by decide +kernel
theorem dX10_isQuestion_258 : decode cX10_isQuestion 258 = .ok (.iconst 0, 1) := by decide +kernel
theorem dX10_isQuestion_259 : decode cX10_isQuestion 259 = .ok (.baload, 1) := by decide +kernel
theorem dX10_isQuestion_260 : decode cX10_isQuestion 260 = .ok (.ireturn, 1) := by decide +kernel
set_option maxRecDepth 20000 in
theorem ggX10_isSimple_X10_has : GoodIn wsX10_isSimple wsX10_has := goodIn_r _ [4] (by decide +kernel) (by decide +kernel)
set_option maxRecDepth 20000 in
theorem gX10_isSimple_X10_has : GoodIn wsX10_isSimple (va_wsS RX10 146 yX10_has wsX10_has) := goodIn_app (goodIn_of _ (by decide +kernel)) ggX10_isSimple_X10_has
theorem dX10_isSimple_0 : decode cX10_isSimple 0 = .ok (.iload_n 2, 1) := by decide +kernel
theorem dX10_isSimple_1 : decode cX10_isSimple 1 = .ok (.bipush 7, 2) := by decide +kernel
theorem dX10_isSimple_3 : decode cX10_isSimple 3 = .ok (.irem, 1) := by decide +kernel
theorem dX10_isSimple_4 : decode cX10_isSimple 4 = .ok (.iload_n 3, 1) := by decide +kernel
theorem dX10_isSimple_5 : decode cX10_isSimple 5 = .ok (.if_icmp .ne 7, 3) := by decide +kernel
theorem dX10_isSimple_8 : decode cX10_isSimple 8 = .ok (.iconst 1, 1) := by decide +kernel
theorem dX10_isSimple_9 : decode cX10_isSimple 9 = .ok (.goto 4, 3) := by decide +kernel
theorem dX10_isSimple_12 : decode cX10_isSimple 12 = .ok (.iconst 0, 1) := by decide +kernel
theorem dX10_isSimple_13 : decode cX10_isSimple 13 = .ok (.istore 6, 2) := by decide +kernel
theorem dX10_isSimple_15 : decode cX10_isSimple 15 = .ok (.iload_n 1, 1) := by decide +kernel
theorem dX10_isSimple_16 : decode cX10_isSimple 16 = .ok (.iconst 5, 1) := by decide +kernel
theorem dX10_isSimple_17 : decode cX10_isSimple 17 = .ok (.if_icmp .ge 10, 3) := by decide +kernel
theorem dX10_isSimple_20 : decode cX10_isSimple 20 = .ok (.iload 4, 2) := by decide +kernel
theorem dX10_isSimple_22 : decode cX10_isSimple 22 = .ok (.iload_n 1, 1) := by decide +kernel
theorem dX10_isSimple_23 : decode cX10_isSimple 23 = .ok (.invokestatic 146, 3) := by decide +kernel
theorem dX10_isSimple_26 : decode cX10_isSimple 26 = .ok (.ireturn, 1) := by decide +kernel
theorem dX10_isSimple_27 : decode cX10_isSimple 27 = .ok (.iload_n 1, 1) := by decide +kernel
theorem dX10_isSimple_28 : decode cX10_isSimple 28 = .ok (.iconst 5, 1) := by decide +kernel
theorem dX10_isSimple_29 : decode cX10_isSimple 29 = .ok (.if_icmp .ne 6, 3) := by decide +kernel
theorem dX10_isSimple_32 : decode cX10_isSimple 32 = .ok (.iload 6, 2) := by decide +kernel
theorem dX10_isSimple_34 : decode cX10_isSimple 34 = .ok (.ireturn, 1) := by decide +kernel
theorem dX10_isSimple_35 : decode cX10_isSimple 35 = .ok (.iload_n 1, 1) := by decide +kernel
theorem dX10_isSimple_36 : decode cX10_isSimple 36 = .ok (.bipush 13, 2) := by decide +kernel
theorem dX10_isSimple_38 : decode cX10_isSimple 38 = .ok (.if_icmp .ge 17, 3) := by decide +kernel
theorem dX10_isSimple_41 : decode cX10_isSimple 41 = .ok (.iload_n 3, 1) := by decide +kernel
theorem dX10_isSimple_42 : decode cX10_isSimple 42 = .ok (.iload_n 1, 1) := by decide +kernel
theorem dX10_isSimple_43 : decode cX10_isSimple 43 = .ok (.bipush 6, 2) := by decide +kernel
theorem dX10_isSimple_45 : decode cX10_isSimple 45 = .ok (.isub, 1) := by decide +kernel
theorem dX10_isSimple_46 : decode cX10_isSimple 46 = .ok (.if_icmp .ne 7, 3) := by decide +kernel
theorem dX10_isSimple_49 : decode cX10_isSimple 49 = .ok (.iconst 1, 1) := by decide +kernel
theorem dX10_isSimple_50 : decode cX10_isSimple 50 = .ok (.goto 4, 3) := by decide +kernel
theorem dX10_isSimple_53 : decode cX10_isSimple 53 = .ok (.iconst 0, 1) := by decide +kernel
theorem dX10_isSimple_54 : decode cX10_isSimple 54 = .ok (.ireturn, 1) := by decide +kernel
theorem dX10_isSimple_55 : decode cX10_isSimple 55 = .ok (.iload_n 1, 1) := by decide +kernel
theorem dX10_isSimple_56 : decode cX10_isSimple 56 = .ok (.bipush 18, 2) := by decide +kernel
theorem dX10_isSimple_58 : decode cX10_isSimple 58 = .ok (.if_icmp .ne 8, 3) := by decide +kernel
theorem dX10_isSimple_61 : decode cX10_isSimple 61 = .ok (.iload 5, 2) := by decide +kernel
theorem dX10_isSimple_63 : decode cX10_isSimple 63 = .ok (.goto 22, 3) := by decide +kernel
theorem dX10_isSimple_66 : decode cX10_isSimple 66 = .ok (.iload 4, 2) := by decide +kernel
theorem dX10_isSimple_68 : decode cX10_isSimple 68 = .ok (.iload_n 1, 1) := by decide +kernel
theorem dX10_isSimple_69 : decode cX10_isSimple 69 = .ok (.bipush 13, 2) := by decide +kernel
theorem dX10_isSimple_71 : decode cX10_isSimple 71 = .ok (.isub, 1) := by decide +kernel
theorem dX10_isSimple_72 : decode cX10_isSimple 72 = .ok (.invokestatic 146, 3) := by decide +kernel
theorem dX10_isSimple_75 : decode cX10_isSimple 75 = .ok (.iload 6, 2) := by decide +kernel
theorem dX10_isSimple_77 : decode cX10_isSimple 77 = .ok (.if_icmp .eq 7, 3) := by decide +kernel
theorem dX10_isSimple_80 : decode cX10_isSimple 80 = .ok (.iconst 1, 1) := by decide +kernel
theorem dX10_isSimple_81 : decode cX10_isSimple 81 = .ok (.goto 4, 3) := by decide +kernel
theorem dX10_isSimple_84 : decode cX10_isSimple 84 = .ok (.iconst 0, 1) := by decide +kernel
theorem dX10_isSimple_85 : decode cX10_isSimple 85 = .ok (.ireturn, 1) := by decide +kernel
set_option maxRecDepth 20000 in
theorem ggX10_answerOf_X10_isQuestion : GoodIn wsX10_answerOf wsX10_isQuestion := goodIn_r _ [5, 6, 7, 8, 9, 10, 11, 4, 12, 13, 14, 15, 16, 17, 18, 19, 20, 25, 26, 27, 28, 29, 30, 31, 32, 33, 34, 35, 36, 37, 38, 39, 40, 41, 42, 43, 44, 45, 46, 47, 48, 49, 50, 51, 52, 53, 54, 55] (by decide +kernel) (by decide +kernel)
set_option maxRecDepth 20000 in
theorem gX10_answerOf_X10_isQuestion : GoodIn wsX10_answerOf (wsV RX10 150 RX10 yX10_isQuestion wsX10_isQuestion) := goodIn_app (goodIn_of _ (by decide +kernel)) ggX10_answerOf_X10_isQuestion
set_option maxRecDepth 20000 in
theorem ggX10_answerOf_X10_isSimple : GoodIn wsX10_answerOf wsX10_isSimple := goodIn_r _ [24, 18, 19, 4, 20] (by decide +kernel) (by decide +kernel)
set_option maxRecDepth 20000 in
theorem gX10_answerOf_X10_isSimple : GoodIn wsX10_answerOf (wsV RX10 154 RX10 yX10_isSimple wsX10_isSimple) := goodIn_app (goodIn_of _ (by decide +kernel)) ggX10_answerOf_X10_isSimple
theorem dX10_answerOf_0 : decode cX10_answerOf 0 = .ok (.iload_n 2, 1) := by decide +kernel
theorem dX10_answerOf_1 : decode cX10_answerOf 1 = .ok (.bipush 7, 2) := by decide +kernel
theorem dX10_answerOf_3 : decode cX10_answerOf 3 = .ok (.irem, 1) := by decide +kernel
theorem dX10_answerOf_4 : decode cX10_answerOf 4 = .ok (.iload 4, 2) := by decide +kernel
theorem dX10_answerOf_6 : decode cX10_answerOf 6 = .ok (.if_icmp .ne 7, 3) := by decide +kernel
theorem dX10_answerOf_9 : decode cX10_answerOf 9 = .ok (.iconst 1, 1) := by decide +kernel
theorem dX10_answerOf_10 : decode cX10_answerOf 10 = .ok (.goto 4, 3) := by decide +kernel
theorem dX10_answerOf_13 : decode cX10_answerOf 13 = .ok (.iconst 0, 1) := by decide +kernel
theorem dX10_answerOf_14 : decode cX10_answerOf 14 = .ok (.istore 6, 2) := by decide +kernel
theorem dX10_answerOf_16 : decode cX10_answerOf 16 = .ok (.iload_n 1, 1) := by decide +kernel
theorem dX10_answerOf_17 : decode cX10_answerOf 17 = .ok (.bipush (-9), 2) := by decide +kernel
theorem dX10_answerOf_19 : decode cX10_answerOf 19 = .ok (.if_icmp .ne 15, 3) := by decide +kernel
theorem dX10_answerOf_22 : decode cX10_answerOf 22 = .ok (.aload_n 0, 1) := by decide +kernel
theorem dX10_answerOf_23 : decode cX10_answerOf 23 = .ok (.iload_n 2, 1) := by decide +kernel
theorem dX10_answerOf_24 : decode cX10_answerOf 24 = .ok (.iload_n 3, 1) := by decide +kernel
theorem dX10_answerOf_25 : decode cX10_answerOf 25 = .ok (.iload 5, 2) := by decide +kernel
theorem dX10_answerOf_27 : decode cX10_answerOf 27 = .ok (.iconst 1, 1) := by decide +kernel
theorem dX10_answerOf_28 : decode cX10_answerOf 28 = .ok (.invokevirtual 150, 3) := by decide +kernel
theorem dX10_answerOf_31 : decode cX10_answerOf 31 = .ok (.goto 13, 3) := by decide +kernel
theorem dX10_answerOf_34 : decode cX10_answerOf 34 = .ok (.aload_n 0, 1) := by decide +kernel
theorem dX10_answerOf_35 : decode cX10_answerOf 35 = .ok (.iload_n 1, 1) := by decide +kernel
theorem dX10_answerOf_36 : decode cX10_answerOf 36 = .ok (.iload_n 2, 1) := by decide +kernel
theorem dX10_answerOf_37 : decode cX10_answerOf 37 = .ok (.iload_n 3, 1) := by decide +kernel
theorem dX10_answerOf_38 : decode cX10_answerOf 38 = .ok (.iload 5, 2) := by decide +kernel
theorem dX10_answerOf_40 : decode cX10_answerOf 40 = .ok (.iconst 1, 1) := by decide +kernel
theorem dX10_answerOf_41 : decode cX10_answerOf 41 = .ok (.invokevirtual 154, 3) := by decide +kernel
theorem dX10_answerOf_44 : decode cX10_answerOf 44 = .ok (.istore 7, 2) := by decide +kernel
theorem dX10_answerOf_46 : decode cX10_answerOf 46 = .ok (.iload 7, 2) := by decide +kernel
theorem dX10_answerOf_48 : decode cX10_answerOf 48 = .ok (.iload 6, 2) := by decide +kernel
theorem dX10_answerOf_50 : decode cX10_answerOf 50 = .ok (.if_icmp .ne 5, 3) := by decide +kernel
theorem dX10_answerOf_53 : decode cX10_answerOf 53 = .ok (.iconst 1, 1) := by decide +kernel
theorem dX10_answerOf_54 : decode cX10_answerOf 54 = .ok (.ireturn, 1) := by decide +kernel
theorem dX10_answerOf_55 : decode cX10_answerOf 55 = .ok (.iload_n 1, 1) := by decide +kernel
theorem dX10_answerOf_56 : decode cX10_answerOf 56 = .ok (.bipush (-9), 2) := by decide +kernel
theorem dX10_answerOf_58 : decode cX10_answerOf 58 = .ok (.if_icmp .ne 15, 3) := by decide +kernel
theorem dX10_answerOf_61 : decode cX10_answerOf 61 = .ok (.aload_n 0, 1) := by decide +kernel
theorem dX10_answerOf_62 : decode cX10_answerOf 62 = .ok (.iload_n 2, 1) := by decide +kernel
theorem dX10_answerOf_63 : decode cX10_answerOf 63 = .ok (.iload_n 3, 1) := by decide +kernel
theorem dX10_answerOf_64 : decode cX10_answerOf 64 = .ok (.iload 5, 2) := by decide +kernel
theorem dX10_answerOf_66 : decode cX10_answerOf 66 = .ok (.iconst 0, 1) := by decide +kernel
theorem dX10_answerOf_67 : decode cX10_answerOf 67 = .ok (.invokevirtual 150, 3) := by decide +kernel
theorem dX10_answerOf_70 : decode cX10_answerOf 70 = .ok (.goto 13, 3) := by decide +kernel
theorem dX10_answerOf_73 : decode cX10_answerOf 73 = .ok (.aload_n 0, 1) := by decide +kernel
theorem dX10_answerOf_74 : decode cX10_answerOf 74 = .ok (.iload_n 1, 1) := by decide +kernel
theorem dX10_answerOf_75 : decode cX10_answerOf 75 = .ok (.iload_n 2, 1) := by decide +kernel
theorem dX10_answerOf_76 : decode cX10_answerOf 76 = .ok (.iload_n 3, 1) := by decide +kernel
theorem dX10_answerOf_77 : decode cX10_answerOf 77 = .ok (.iload 5, 2) := by decide +kernel
theorem dX10_answerOf_79 : decode cX10_answerOf 79 = .ok (.iconst 0, 1) := by decide +kernel
theorem dX10_answerOf_80 : decode cX10_answerOf 80 = .ok (.invokevirtual 154, 3) := by decide +kernel
theorem dX10_answerOf_83 : decode cX10_answerOf 83 = .ok (.istore 8, 2) := by decide +kernel
theorem dX10_answerOf_85 : decode cX10_answerOf 85 = .ok (.iload 8, 2) := by decide +kernel
theorem dX10_answerOf_87 : decode cX10_answerOf 87 = .ok (.iload 6, 2) := by decide +kernel
theorem dX10_answerOf_89 : decode cX10_answerOf 89 = .ok (.if_icmp .eq 7, 3) := by decide +kernel
theorem dX10_answerOf_92 : decode cX10_answerOf 92 = .ok (.iconst 0, 1) := by decide +kernel
theorem dX10_answerOf_93 : decode cX10_answerOf 93 = .ok (.goto 5, 3) := by decide +kernel
theorem dX10_answerOf_96 : decode cX10_answerOf 96 = .ok (.bipush (-9), 2) := by decide +kernel
theorem dX10_answerOf_98 : decode cX10_answerOf 98 = .ok (.ireturn, 1) := by decide +kernel
set_option maxRecDepth 20000 in
theorem ggX10_layAnswers_X10_has : GoodIn wsX10_layAnswers wsX10_has := goodIn_r _ [8] (by decide +kernel) (by decide +kernel)
set_option maxRecDepth 20000 in
theorem gX10_layAnswers_X10_has : GoodIn wsX10_layAnswers (va_wsS RX10 146 yX10_has wsX10_has) := goodIn_app (goodIn_of _ (by decide +kernel)) ggX10_layAnswers_X10_has
set_option maxRecDepth 20000 in
theorem ggX10_layAnswers_X10_answerOf : GoodIn wsX10_layAnswers wsX10_answerOf := goodIn_r _ [12, 13, 14, 15, 7, 16, 17, 18, 19, 20, 21, 22, 23, 4, 24, 25, 26, 27, 5, 6, 8, 28, 29, 30, 31, 32, 33, 34, 35, 36, 37, 38, 39, 40, 41, 42, 43, 44, 45, 46, 47, 48, 49, 50, 51, 52, 53, 54, 55, 56, 57, 58, 59, 60, 61, 62] (by decide +kernel) (by decide +kernel)
set_option maxRecDepth 20000 in
theorem gX10_layAnswers_X10_answerOf : GoodIn wsX10_layAnswers (wsV RX10 158 RX10 yX10_answerOf wsX10_answerOf) := goodIn_app (goodIn_of _ (by decide +kernel)) ggX10_layAnswers_X10_answerOf
theorem dX10_layAnswers_0 : decode cX10_layAnswers 0 = .ok (.iconst 0, 1) := by decide +kernel
theorem dX10_layAnswers_1 : decode cX10_layAnswers 1 = .ok (.istore_n 1, 1) := by decide +kernel
theorem dX10_layAnswers_2 : decode cX10_layAnswers 2 = .ok (.iload_n 1, 1) := by decide +kernel
theorem dX10_layAnswers_3 : decode cX10_layAnswers 3 = .ok (.iconst 5, 1) := by decide +kernel
theorem dX10_layAnswers_4 : decode cX10_layAnswers 4 = .ok (.if_icmp .ge 54, 3) := by decide +kernel
theorem dX10_layAnswers_7 : decode cX10_layAnswers 7 = .ok (.aload_n 0, 1) := by decide +kernel
theorem dX10_layAnswers_8 : decode cX10_layAnswers 8 = .ok (.getfield 48, 3) := by decide +kernel
theorem dX10_layAnswers_11 : decode cX10_layAnswers 11 = .ok (.iload_n 1, 1) := by decide +kernel
theorem dX10_layAnswers_12 : decode cX10_layAnswers 12 = .ok (.iconst 0, 1) := by decide +kernel
theorem dX10_layAnswers_13 : decode cX10_layAnswers 13 = .ok (.iastore, 1) := by decide +kernel
theorem dX10_layAnswers_14 : decode cX10_layAnswers 14 = .ok (.iconst 0, 1) := by decide +kernel
theorem dX10_layAnswers_15 : decode cX10_layAnswers 15 = .ok (.istore_n 2, 1) := by decide +kernel
theorem dX10_layAnswers_16 : decode cX10_layAnswers 16 = .ok (.iload_n 2, 1) := by decide +kernel
theorem dX10_layAnswers_17 : decode cX10_layAnswers 17 = .ok (.bipush 32, 2) := by decide +kernel
theorem dX10_layAnswers_19 : decode cX10_layAnswers 19 = .ok (.if_icmp .ge 33, 3) := by decide +kernel
theorem dX10_layAnswers_22 : decode cX10_layAnswers 22 = .ok (.aload_n 0, 1) := by decide +kernel
theorem dX10_layAnswers_23 : decode cX10_layAnswers 23 = .ok (.getfield 48, 3) := by decide +kernel
theorem dX10_layAnswers_26 : decode cX10_layAnswers 26 = .ok (.iload_n 1, 1) := by decide +kernel
theorem dX10_layAnswers_27 : decode cX10_layAnswers 27 = .ok (.dup2, 1) := by decide +kernel
theorem dX10_layAnswers_28 : decode cX10_layAnswers 28 = .ok (.iaload, 1) := by decide +kernel
theorem dX10_layAnswers_29 : decode cX10_layAnswers 29 = .ok (.iload_n 2, 1) := by decide +kernel
theorem dX10_layAnswers_30 : decode cX10_layAnswers 30 = .ok (.iload_n 1, 1) := by decide +kernel
theorem dX10_layAnswers_31 : decode cX10_layAnswers 31 = .ok (.invokestatic 146, 3) := by decide +kernel
theorem dX10_layAnswers_34 : decode cX10_layAnswers 34 = .ok (.ifCond .eq 9, 3) := by decide +kernel
theorem dX10_layAnswers_37 : decode cX10_layAnswers 37 = .ok (.iconst 1, 1) := by decide +kernel
theorem dX10_layAnswers_38 : decode cX10_layAnswers 38 = .ok (.iload_n 2, 1) := by decide +kernel
theorem dX10_layAnswers_39 : decode cX10_layAnswers 39 = .ok (.ishl, 1) := by decide +kernel
theorem dX10_layAnswers_40 : decode cX10_layAnswers 40 = .ok (.goto 4, 3) := by decide +kernel
theorem dX10_layAnswers_43 : decode cX10_layAnswers 43 = .ok (.iconst 0, 1) := by decide +kernel
theorem dX10_layAnswers_44 : decode cX10_layAnswers 44 = .ok (.ior, 1) := by decide +kernel
theorem dX10_layAnswers_45 : decode cX10_layAnswers 45 = .ok (.iastore, 1) := by decide +kernel
theorem dX10_layAnswers_46 : decode cX10_layAnswers 46 = .ok (.iinc 2 1, 3) := by decide +kernel
theorem dX10_layAnswers_49 : decode cX10_layAnswers 49 = .ok (.goto (-33), 3) := by decide +kernel
theorem dX10_layAnswers_52 : decode cX10_layAnswers 52 = .ok (.iinc 1 1, 3) := by decide +kernel
theorem dX10_layAnswers_55 : decode cX10_layAnswers 55 = .ok (.goto (-53), 3) := by decide +kernel
theorem dX10_layAnswers_58 : decode cX10_layAnswers 58 = .ok (.iconst 0, 1) := by decide +kernel
theorem dX10_layAnswers_59 : decode cX10_layAnswers 59 = .ok (.istore_n 1, 1) := by decide +kernel
theorem dX10_layAnswers_60 : decode cX10_layAnswers 60 = .ok (.iload_n 1, 1) := by decide +kernel
theorem dX10_layAnswers_61 : decode cX10_layAnswers 61 = .ok (.sipush 931, 3) := by decide +kernel
theorem dX10_layAnswers_64 : decode cX10_layAnswers 64 = .ok (.if_icmp .ge 107, 3) := by decide +kernel
theorem dX10_layAnswers_67 : decode cX10_layAnswers 67 = .ok (.aload_n 0, 1) := by decide +kernel
theorem dX10_layAnswers_68 : decode cX10_layAnswers 68 = .ok (.getfield 42, 3) := by decide +kernel
theorem dX10_layAnswers_71 : decode cX10_layAnswers 71 = .ok (.iload_n 1, 1) := by decide +kernel
theorem dX10_layAnswers_72 : decode cX10_layAnswers 72 = .ok (.iconst 0, 1) := by decide +kernel
theorem dX10_layAnswers_73 : decode cX10_layAnswers 73 = .ok (.iastore, 1) := by decide +kernel
theorem dX10_layAnswers_74 : decode cX10_layAnswers 74 = .ok (.aload_n 0, 1) := by decide +kernel
theorem dX10_layAnswers_75 : decode cX10_layAnswers 75 = .ok (.getfield 45, 3) := by decide +kernel
theorem dX10_layAnswers_78 : decode cX10_layAnswers 78 = .ok (.iload_n 1, 1) := by decide +kernel
theorem dX10_layAnswers_79 : decode cX10_layAnswers 79 = .ok (.iconst 0, 1) := by decide +kernel
theorem dX10_layAnswers_80 : decode cX10_layAnswers 80 = .ok (.iastore, 1) := by decide +kernel
theorem dX10_layAnswers_81 : decode cX10_layAnswers 81 = .ok (.iconst 0, 1) := by decide +kernel
theorem dX10_layAnswers_82 : decode cX10_layAnswers 82 = .ok (.istore_n 2, 1) := by decide +kernel
theorem dX10_layAnswers_83 : decode cX10_layAnswers 83 = .ok (.iload_n 2, 1) := by decide +kernel
theorem dX10_layAnswers_84 : decode cX10_layAnswers 84 = .ok (.iconst 1, 1) := by decide +kernel
theorem dX10_layAnswers_85 : decode cX10_layAnswers 85 = .ok (.aload_n 0, 1) := by decide +kernel
theorem dX10_layAnswers_86 : decode cX10_layAnswers 86 = .ok (.getfield 102, 3) := by decide +kernel
theorem dX10_layAnswers_89 : decode cX10_layAnswers 89 = .ok (.ishl, 1) := by decide +kernel
theorem dX10_layAnswers_90 : decode cX10_layAnswers 90 = .ok (.if_icmp .ge 75, 3) := by decide +kernel
theorem dX10_layAnswers_93 : decode cX10_layAnswers 93 = .ok (.aload_n 0, 1) := by decide +kernel
theorem dX10_layAnswers_94 : decode cX10_layAnswers 94 = .ok (.iload_n 1, 1) := by decide +kernel
theorem dX10_layAnswers_95 : decode cX10_layAnswers 95 = .ok (.bipush 49, 2) := by decide +kernel
theorem dX10_layAnswers_97 : decode cX10_layAnswers 97 = .ok (.idiv, 1) := by decide +kernel
theorem dX10_layAnswers_98 : decode cX10_layAnswers 98 = .ok (.iload_n 1, 1) := by decide +kernel
theorem dX10_layAnswers_99 : decode cX10_layAnswers 99 = .ok (.bipush 7, 2) := by decide +kernel
theorem dX10_layAnswers_101 : decode cX10_layAnswers 101 = .ok (.idiv, 1) := by decide +kernel
theorem dX10_layAnswers_102 : decode cX10_layAnswers 102 = .ok (.bipush 7, 2) := by decide +kernel
theorem dX10_layAnswers_104 : decode cX10_layAnswers 104 = .ok (.irem, 1) := by decide +kernel
theorem dX10_layAnswers_105 : decode cX10_layAnswers 105 = .ok (.iload_n 1, 1) := by decide +kernel
theorem dX10_layAnswers_106 : decode cX10_layAnswers 106 = .ok (.bipush 7, 2) := by decide +kernel
theorem dX10_layAnswers_108 : decode cX10_layAnswers 108 = .ok (.irem, 1) := by decide +kernel
theorem dX10_layAnswers_109 : decode cX10_layAnswers 109 = .ok (.iload_n 1, 1) := by decide +kernel
theorem dX10_layAnswers_110 : decode cX10_layAnswers 110 = .ok (.bipush 7, 2) := by decide +kernel
theorem dX10_layAnswers_112 : decode cX10_layAnswers 112 = .ok (.irem, 1) := by decide +kernel
theorem dX10_layAnswers_113 : decode cX10_layAnswers 113 = .ok (.iload_n 2, 1) := by decide +kernel
theorem dX10_layAnswers_114 : decode cX10_layAnswers 114 = .ok (.invokevirtual 158, 3) := by decide +kernel
theorem dX10_layAnswers_117 : decode cX10_layAnswers 117 = .ok (.istore_n 3, 1) := by decide +kernel
theorem dX10_layAnswers_118 : decode cX10_layAnswers 118 = .ok (.aload_n 0, 1) := by decide +kernel
theorem dX10_layAnswers_119 : decode cX10_layAnswers 119 = .ok (.getfield 42, 3) := by decide +kernel
theorem dX10_layAnswers_122 : decode cX10_layAnswers 122 = .ok (.iload_n 1, 1) := by decide +kernel
theorem dX10_layAnswers_123 : decode cX10_layAnswers 123 = .ok (.dup2, 1) := by decide +kernel
theorem dX10_layAnswers_124 : decode cX10_layAnswers 124 = .ok (.iaload, 1) := by decide +kernel
theorem dX10_layAnswers_125 : decode cX10_layAnswers 125 = .ok (.iload_n 3, 1) := by decide +kernel
theorem dX10_layAnswers_126 : decode cX10_layAnswers 126 = .ok (.iconst 1, 1) := by decide +kernel
theorem dX10_layAnswers_127 : decode cX10_layAnswers 127 = .ok (.if_icmp .ne 9, 3) := by decide +kernel
theorem dX10_layAnswers_130 : decode cX10_layAnswers 130 = .ok (.iconst 1, 1) := by decide +kernel
theorem dX10_layAnswers_131 : decode cX10_layAnswers 131 = .ok (.iload_n 2, 1) := by decide +kernel
theorem dX10_layAnswers_132 : decode cX10_layAnswers 132 = .ok (.ishl, 1) := by decide +kernel
theorem dX10_layAnswers_133 : decode cX10_layAnswers 133 = .ok (.goto 4, 3) := by decide +kernel
theorem dX10_layAnswers_136 : decode cX10_layAnswers 136 = .ok (.iconst 0, 1) := by decide +kernel
theorem dX10_layAnswers_137 : decode cX10_layAnswers 137 = .ok (.ior, 1) := by decide +kernel
theorem dX10_layAnswers_138 : decode cX10_layAnswers 138 = .ok (.iastore, 1) := by decide +kernel
theorem dX10_layAnswers_139 : decode cX10_layAnswers 139 = .ok (.aload_n 0, 1) := by decide +kernel
theorem dX10_layAnswers_140 : decode cX10_layAnswers 140 = .ok (.getfield 45, 3) := by decide +kernel
theorem dX10_layAnswers_143 : decode cX10_layAnswers 143 = .ok (.iload_n 1, 1) := by decide +kernel
theorem dX10_layAnswers_144 : decode cX10_layAnswers 144 = .ok (.dup2, 1) := by decide +kernel
theorem dX10_layAnswers_145 : decode cX10_layAnswers 145 = .ok (.iaload, 1) := by decide +kernel
theorem dX10_layAnswers_146 : decode cX10_layAnswers 146 = .ok (.iload_n 3, 1) := by decide +kernel
theorem dX10_layAnswers_147 : decode cX10_layAnswers 147 = .ok (.ifCond .ne 9, 3) := by decide +kernel
theorem dX10_layAnswers_150 : decode cX10_layAnswers 150 = .ok (.iconst 1, 1) := by decide +kernel
theorem dX10_layAnswers_151 : decode cX10_layAnswers 151 = .ok (.iload_n 2, 1) := by decide +kernel
theorem dX10_layAnswers_152 : decode cX10_layAnswers 152 = .ok (.ishl, 1) := by decide +kernel
theorem dX10_layAnswers_153 : decode cX10_layAnswers 153 = .ok (.goto 4, 3) := by decide +kernel
theorem dX10_layAnswers_156 : decode cX10_layAnswers 156 = .ok (.iconst 0, 1) := by decide +kernel
theorem dX10_layAnswers_157 : decode cX10_layAnswers 157 = .ok (.ior, 1) := by decide +kernel
theorem dX10_layAnswers_158 : decode cX10_layAnswers 158 = .ok (.iastore, 1) := by decide +kernel
theorem dX10_layAnswers_159 : decode cX10_layAnswers 159 = .ok (.iinc 2 1, 3) := by decide +kernel
theorem dX10_layAnswers_162 : decode cX10_layAnswers 162 = .ok (.goto (-79), 3) := by decide +kernel
theorem dX10_layAnswers_165 : decode cX10_layAnswers 165 = .ok (.iinc 1 1, 3) := by decide +kernel
theorem dX10_layAnswers_168 : decode cX10_layAnswers 168 = .ok (.goto (-108), 3) := by decide +kernel
theorem dX10_layAnswers_171 : decode cX10_layAnswers 171 = .ok (.return_, 1) := by decide +kernel
set_option maxRecDepth 20000 in
theorem ggX10_part_X10_has : GoodIn wsX10_part wsX10_has := goodIn_r _ [7] (by decide +kernel) (by decide +kernel)
set_option maxRecDepth 20000 in
theorem gX10_part_X10_has : GoodIn wsX10_part (va_wsS RX10 146 yX10_has wsX10_has) := goodIn_app (goodIn_of _ (by decide +kernel)) ggX10_part_X10_has
set_option maxRecDepth 20000 in
theorem ggX10_part_X10_answerOf : GoodIn wsX10_part wsX10_answerOf := goodIn_r _ [11, 12, 13, 14, 6, 15, 16, 17, 18, 19, 20, 21, 22, 1, 23, 24, 25, 26, 4, 5, 7, 27, 28, 29, 30, 31, 32, 33, 34, 35, 36, 37, 38, 39, 40, 41, 42, 43, 44, 45, 46, 47, 48, 49, 50, 51, 52, 53, 54, 55, 56, 57, 58, 59, 60, 61] (by decide +kernel) (by decide +kernel)
set_option maxRecDepth 20000 in
theorem gX10_part_X10_answerOf : GoodIn wsX10_part (wsV RX10 158 RX10 yX10_answerOf wsX10_answerOf) := goodIn_app (goodIn_of _ (by decide +kernel)) ggX10_part_X10_answerOf
theorem dX10_part_0 : decode cX10_part 0 = .ok (.iconst 0, 1) := by decide +kernel
theorem dX10_part_1 : decode cX10_part 1 = .ok (.istore 6, 2) := by decide +kernel
theorem dX10_part_3 : decode cX10_part 3 = .ok (.iload 6, 2) := by decide +kernel
theorem dX10_part_5 : decode cX10_part 5 = .ok (.bipush 7, 2) := by decide +kernel
theorem dX10_part_7 : decode cX10_part 7 = .ok (.if_icmp .ge 162, 3) := by decide +kernel
theorem dX10_part_10 : decode cX10_part 10 = .ok (.iconst 0, 1) := by decide +kernel
theorem dX10_part_11 : decode cX10_part 11 = .ok (.istore 7, 2) := by decide +kernel
theorem dX10_part_13 : decode cX10_part 13 = .ok (.iload_n 2, 1) := by decide +kernel
theorem dX10_part_14 : decode cX10_part 14 = .ok (.bipush (-9), 2) := by decide +kernel
theorem dX10_part_16 : decode cX10_part 16 = .ok (.if_icmp .ne 68, 3) := by decide +kernel
theorem dX10_part_19 : decode cX10_part 19 = .ok (.iconst 0, 1) := by decide +kernel
theorem dX10_part_20 : decode cX10_part 20 = .ok (.istore 8, 2) := by decide +kernel
theorem dX10_part_22 : decode cX10_part 22 = .ok (.iload 8, 2) := by decide +kernel
theorem dX10_part_24 : decode cX10_part 24 = .ok (.iconst 1, 1) := by decide +kernel
theorem dX10_part_25 : decode cX10_part 25 = .ok (.aload_n 0, 1) := by decide +kernel
theorem dX10_part_26 : decode cX10_part 26 = .ok (.getfield 102, 3) := by decide +kernel
theorem dX10_part_29 : decode cX10_part 29 = .ok (.ishl, 1) := by decide +kernel
theorem dX10_part_30 : decode cX10_part 30 = .ok (.if_icmp .ge 51, 3) := by decide +kernel
theorem dX10_part_33 : decode cX10_part 33 = .ok (.iload 7, 2) := by decide +kernel
theorem dX10_part_35 : decode cX10_part 35 = .ok (.aload_n 1, 1) := by decide +kernel
theorem dX10_part_36 : decode cX10_part 36 = .ok (.iload 6, 2) := by decide +kernel
theorem dX10_part_38 : decode cX10_part 38 = .ok (.iaload, 1) := by decide +kernel
theorem dX10_part_39 : decode cX10_part 39 = .ok (.iload 8, 2) := by decide +kernel
theorem dX10_part_41 : decode cX10_part 41 = .ok (.invokestatic 146, 3) := by decide +kernel
theorem dX10_part_44 : decode cX10_part 44 = .ok (.ifCond .eq 27, 3) := by decide +kernel
theorem dX10_part_47 : decode cX10_part 47 = .ok (.aload_n 0, 1) := by decide +kernel
theorem dX10_part_48 : decode cX10_part 48 = .ok (.iload_n 2, 1) := by decide +kernel
theorem dX10_part_49 : decode cX10_part 49 = .ok (.iload_n 3, 1) := by decide +kernel
theorem dX10_part_50 : decode cX10_part 50 = .ok (.iload 6, 2) := by decide +kernel
theorem dX10_part_52 : decode cX10_part 52 = .ok (.iload 6, 2) := by decide +kernel
theorem dX10_part_54 : decode cX10_part 54 = .ok (.iload 8, 2) := by decide +kernel
theorem dX10_part_56 : decode cX10_part 56 = .ok (.invokevirtual 158, 3) := by decide +kernel
theorem dX10_part_59 : decode cX10_part 59 = .ok (.iload 4, 2) := by decide +kernel
theorem dX10_part_61 : decode cX10_part 61 = .ok (.if_icmp .ne 10, 3) := by decide +kernel
theorem dX10_part_64 : decode cX10_part 64 = .ok (.iconst 1, 1) := by decide +kernel
theorem dX10_part_65 : decode cX10_part 65 = .ok (.iload 8, 2) := by decide +kernel
theorem dX10_part_67 : decode cX10_part 67 = .ok (.ishl, 1) := by decide +kernel
theorem dX10_part_68 : decode cX10_part 68 = .ok (.goto 4, 3) := by decide +kernel
theorem dX10_part_71 : decode cX10_part 71 = .ok (.iconst 0, 1) := by decide +kernel
theorem dX10_part_72 : decode cX10_part 72 = .ok (.ior, 1) := by decide +kernel
theorem dX10_part_73 : decode cX10_part 73 = .ok (.istore 7, 2) := by decide +kernel
theorem dX10_part_75 : decode cX10_part 75 = .ok (.iinc 8 1, 3) := by decide +kernel
theorem dX10_part_78 : decode cX10_part 78 = .ok (.goto (-56), 3) := by decide +kernel
theorem dX10_part_81 : decode cX10_part 81 = .ok (.goto 70, 3) := by decide +kernel
theorem dX10_part_84 : decode cX10_part 84 = .ok (.bipush 49, 2) := by decide +kernel
theorem dX10_part_86 : decode cX10_part 86 = .ok (.iload_n 2, 1) := by decide +kernel
theorem dX10_part_87 : decode cX10_part 87 = .ok (.imul, 1) := by decide +kernel
theorem dX10_part_88 : decode cX10_part 88 = .ok (.bipush 7, 2) := by decide +kernel
theorem dX10_part_90 : decode cX10_part 90 = .ok (.iload_n 3, 1) := by decide +kernel
theorem dX10_part_91 : decode cX10_part 91 = .ok (.bipush 7, 2) := by decide +kernel
theorem dX10_part_93 : decode cX10_part 93 = .ok (.irem, 1) := by decide +kernel
theorem dX10_part_94 : decode cX10_part 94 = .ok (.imul, 1) := by decide +kernel
theorem dX10_part_95 : decode cX10_part 95 = .ok (.iadd, 1) := by decide +kernel
theorem dX10_part_96 : decode cX10_part 96 = .ok (.iload 6, 2) := by decide +kernel
theorem dX10_part_98 : decode cX10_part 98 = .ok (.iadd, 1) := by decide +kernel
theorem dX10_part_99 : decode cX10_part 99 = .ok (.istore 8, 2) := by decide +kernel
theorem dX10_part_101 : decode cX10_part 101 = .ok (.iload 4, 2) := by decide +kernel
theorem dX10_part_103 : decode cX10_part 103 = .ok (.iconst 1, 1) := by decide +kernel
theorem dX10_part_104 : decode cX10_part 104 = .ok (.if_icmp .ne 13, 3) := by decide +kernel
theorem dX10_part_107 : decode cX10_part 107 = .ok (.aload_n 0, 1) := by decide +kernel
theorem dX10_part_108 : decode cX10_part 108 = .ok (.getfield 42, 3) := by decide +kernel
theorem dX10_part_111 : decode cX10_part 111 = .ok (.iload 8, 2) := by decide +kernel
theorem dX10_part_113 : decode cX10_part 113 = .ok (.iaload, 1) := by decide +kernel
theorem dX10_part_114 : decode cX10_part 114 = .ok (.goto 35, 3) := by decide +kernel
theorem dX10_part_117 : decode cX10_part 117 = .ok (.iload 4, 2) := by decide +kernel
theorem dX10_part_119 : decode cX10_part 119 = .ok (.ifCond .ne 13, 3) := by decide +kernel
theorem dX10_part_122 : decode cX10_part 122 = .ok (.aload_n 0, 1) := by decide +kernel
theorem dX10_part_123 : decode cX10_part 123 = .ok (.getfield 45, 3) := by decide +kernel
theorem dX10_part_126 : decode cX10_part 126 = .ok (.iload 8, 2) := by decide +kernel
theorem dX10_part_128 : decode cX10_part 128 = .ok (.iaload, 1) := by decide +kernel
theorem dX10_part_129 : decode cX10_part 129 = .ok (.goto 20, 3) := by decide +kernel
theorem dX10_part_132 : decode cX10_part 132 = .ok (.aload_n 0, 1) := by decide +kernel
theorem dX10_part_133 : decode cX10_part 133 = .ok (.getfield 42, 3) := by decide +kernel
theorem dX10_part_136 : decode cX10_part 136 = .ok (.iload 8, 2) := by decide +kernel
theorem dX10_part_138 : decode cX10_part 138 = .ok (.iaload, 1) := by decide +kernel
theorem dX10_part_139 : decode cX10_part 139 = .ok (.aload_n 0, 1) := by decide +kernel
theorem dX10_part_140 : decode cX10_part 140 = .ok (.getfield 45, 3) := by decide +kernel
theorem dX10_part_143 : decode cX10_part 143 = .ok (.iload 8, 2) := by decide +kernel
theorem dX10_part_145 : decode cX10_part 145 = .ok (.iaload, 1) := by decide +kernel
theorem dX10_part_146 : decode cX10_part 146 = .ok (.ior, 1) := by decide +kernel
theorem dX10_part_147 : decode cX10_part 147 = .ok (.iconst (-1), 1) := by decide +kernel
theorem dX10_part_148 : decode cX10_part 148 = .ok (.ixor, 1) := by decide +kernel
theorem dX10_part_149 : decode cX10_part 149 = .ok (.istore 7, 2) := by decide +kernel
theorem dX10_part_151 : decode cX10_part 151 = .ok (.aload 5, 2) := by decide +kernel
theorem dX10_part_153 : decode cX10_part 153 = .ok (.iload 6, 2) := by decide +kernel
theorem dX10_part_155 : decode cX10_part 155 = .ok (.aload_n 1, 1) := by decide +kernel
theorem dX10_part_156 : decode cX10_part 156 = .ok (.iload 6, 2) := by decide +kernel
theorem dX10_part_158 : decode cX10_part 158 = .ok (.iaload, 1) := by decide +kernel
theorem dX10_part_159 : decode cX10_part 159 = .ok (.iload 7, 2) := by decide +kernel
theorem dX10_part_161 : decode cX10_part 161 = .ok (.iand, 1) := by decide +kernel
theorem dX10_part_162 : decode cX10_part 162 = .ok (.iastore, 1) := by decide +kernel
theorem dX10_part_163 : decode cX10_part 163 = .ok (.iinc 6 1, 3) := by decide +kernel
theorem dX10_part_166 : decode cX10_part 166 = .ok (.goto (-163), 3) := by decide +kernel
theorem dX10_part_169 : decode cX10_part 169 = .ok (.return_, 1) := by decide +kernel
set_option maxRecDepth 20000 in
theorem ggX10_noSimple_X10_in : GoodIn wsX10_noSimple wsX10_in := goodIn_r _ [8] (by decide +kernel) (by decide +kernel)
set_option maxRecDepth 20000 in
theorem gX10_noSimple_X10_in : GoodIn wsX10_noSimple (va_wsS RX10 72 yX10_in wsX10_in) := goodIn_app (goodIn_of _ (by decide +kernel)) ggX10_noSimple_X10_in
theorem dX10_noSimple_0 : decode cX10_noSimple 0 = .ok (.iload_n 1, 1) := by decide +kernel
theorem dX10_noSimple_1 : decode cX10_noSimple 1 = .ok (.i2l, 1) := by decide +kernel
theorem dX10_noSimple_2 : decode cX10_noSimple 2 = .ok (.lconst 0, 1) := by decide +kernel
theorem dX10_noSimple_3 : decode cX10_noSimple 3 = .ok (.ldc2_w 162, 3) := by decide +kernel
theorem dX10_noSimple_6 : decode cX10_noSimple 6 = .ok (.invokestatic 72, 3) := by decide +kernel
theorem dX10_noSimple_9 : decode cX10_noSimple 9 = .ok (.ifCond .eq 41, 3) := by decide +kernel
theorem dX10_noSimple_12 : decode cX10_noSimple 12 = .ok (.iload_n 1, 1) := by decide +kernel
theorem dX10_noSimple_13 : decode cX10_noSimple 13 = .ok (.iconst 5, 1) := by decide +kernel
theorem dX10_noSimple_14 : decode cX10_noSimple 14 = .ok (.if_icmp .ge 11, 3) := by decide +kernel
theorem dX10_noSimple_17 : decode cX10_noSimple 17 = .ok (.iload_n 1, 1) := by decide +kernel
theorem dX10_noSimple_18 : decode cX10_noSimple 18 = .ok (.aload_n 0, 1) := by decide +kernel
theorem dX10_noSimple_19 : decode cX10_noSimple 19 = .ok (.getfield 102, 3) := by decide +kernel
theorem dX10_noSimple_22 : decode cX10_noSimple 22 = .ok (.if_icmp .ge 28, 3) := by decide +kernel
theorem dX10_noSimple_25 : decode cX10_noSimple 25 = .ok (.iload_n 1, 1) := by decide +kernel
theorem dX10_noSimple_26 : decode cX10_noSimple 26 = .ok (.i2l, 1) := by decide +kernel
theorem dX10_noSimple_27 : decode cX10_noSimple 27 = .ok (.ldc2_w 164, 3) := by decide +kernel
theorem dX10_noSimple_30 : decode cX10_noSimple 30 = .ok (.ldc2_w 166, 3) := by decide +kernel
theorem dX10_noSimple_33 : decode cX10_noSimple 33 = .ok (.invokestatic 72, 3) := by decide +kernel
theorem dX10_noSimple_36 : decode cX10_noSimple 36 = .ok (.ifCond .eq 18, 3) := by decide +kernel
theorem dX10_noSimple_39 : decode cX10_noSimple 39 = .ok (.iload_n 1, 1) := by decide +kernel
theorem dX10_noSimple_40 : decode cX10_noSimple 40 = .ok (.bipush 13, 2) := by decide +kernel
theorem dX10_noSimple_42 : decode cX10_noSimple 42 = .ok (.isub, 1) := by decide +kernel
theorem dX10_noSimple_43 : decode cX10_noSimple 43 = .ok (.aload_n 0, 1) := by decide +kernel
theorem dX10_noSimple_44 : decode cX10_noSimple 44 = .ok (.getfield 102, 3) := by decide +kernel
theorem dX10_noSimple_47 : decode cX10_noSimple 47 = .ok (.if_icmp .lt 7, 3) := by decide +kernel
theorem dX10_noSimple_50 : decode cX10_noSimple 50 = .ok (.iconst 1, 1) := by decide +kernel
theorem dX10_noSimple_51 : decode cX10_noSimple 51 = .ok (.goto 4, 3) := by decide +kernel
theorem dX10_noSimple_54 : decode cX10_noSimple 54 = .ok (.iconst 0, 1) := by decide +kernel
theorem dX10_noSimple_55 : decode cX10_noSimple 55 = .ok (.ireturn, 1) := by decide +kernel
theorem dX10_note_0 : decode cX10_note 0 = .ok (.aload_n 0, 1) := by decide +kernel
theorem dX10_note_1 : decode cX10_note 1 = .ok (.getfield 114, 3) := by decide +kernel
theorem dX10_note_4 : decode cX10_note 4 = .ok (.bipush 10, 2) := by decide +kernel
theorem dX10_note_6 : decode cX10_note 6 = .ok (.if_icmp .ne 70, 3) := by decide +kernel
theorem dX10_note_9 : decode cX10_note 9 = .ok (.iconst 0, 1) := by decide +kernel
theorem dX10_note_10 : decode cX10_note 10 = .ok (.istore_n 1, 1) := by decide +kernel
theorem dX10_note_11 : decode cX10_note 11 = .ok (.iload_n 1, 1) := by decide +kernel
theorem dX10_note_12 : decode cX10_note 12 = .ok (.bipush 108, 2) := by decide +kernel
theorem dX10_note_14 : decode cX10_note 14 = .ok (.if_icmp .ge 24, 3) := by decide +kernel
theorem dX10_note_17 : decode cX10_note 17 = .ok (.aload_n 0, 1) := by decide +kernel
theorem dX10_note_18 : decode cX10_note 18 = .ok (.getfield 19, 3) := by decide +kernel
theorem dX10_note_21 : decode cX10_note 21 = .ok (.iload_n 1, 1) := by decide +kernel
theorem dX10_note_22 : decode cX10_note 22 = .ok (.aload_n 0, 1) := by decide +kernel
theorem dX10_note_23 : decode cX10_note 23 = .ok (.getfield 19, 3) := by decide +kernel
theorem dX10_note_26 : decode cX10_note 26 = .ok (.iload_n 1, 1) := by decide +kernel
theorem dX10_note_27 : decode cX10_note 27 = .ok (.bipush 12, 2) := by decide +kernel
theorem dX10_note_29 : decode cX10_note 29 = .ok (.iadd, 1) := by decide +kernel
theorem dX10_note_30 : decode cX10_note 30 = .ok (.iaload, 1) := by decide +kernel
theorem dX10_note_31 : decode cX10_note 31 = .ok (.iastore, 1) := by decide +kernel
theorem dX10_note_32 : decode cX10_note 32 = .ok (.iinc 1 1, 3) := by decide +kernel
theorem dX10_note_35 : decode cX10_note 35 = .ok (.goto (-24), 3) := by decide +kernel
theorem dX10_note_38 : decode cX10_note 38 = .ok (.iconst 0, 1) := by decide +kernel
theorem dX10_note_39 : decode cX10_note 39 = .ok (.istore_n 1, 1) := by decide +kernel
theorem dX10_note_40 : decode cX10_note 40 = .ok (.iload_n 1, 1) := by decide +kernel
theorem dX10_note_41 : decode cX10_note 41 = .ok (.bipush 9, 2) := by decide +kernel
theorem dX10_note_43 : decode cX10_note 43 = .ok (.if_icmp .ge 23, 3) := by decide +kernel
theorem dX10_note_46 : decode cX10_note 46 = .ok (.aload_n 0, 1) := by decide +kernel
theorem dX10_note_47 : decode cX10_note 47 = .ok (.getfield 22, 3) := by decide +kernel
theorem dX10_note_50 : decode cX10_note 50 = .ok (.iload_n 1, 1) := by decide +kernel
theorem dX10_note_51 : decode cX10_note 51 = .ok (.aload_n 0, 1) := by decide +kernel
theorem dX10_note_52 : decode cX10_note 52 = .ok (.getfield 22, 3) := by decide +kernel
theorem dX10_note_55 : decode cX10_note 55 = .ok (.iload_n 1, 1) := by decide +kernel
theorem dX10_note_56 : decode cX10_note 56 = .ok (.iconst 1, 1) := by decide +kernel
theorem dX10_note_57 : decode cX10_note 57 = .ok (.iadd, 1) := by decide +kernel
theorem dX10_note_58 : decode cX10_note 58 = .ok (.laload, 1) := by decide +kernel
theorem dX10_note_59 : decode cX10_note 59 = .ok (.lastore, 1) := by decide +kernel
theorem dX10_note_60 : decode cX10_note 60 = .ok (.iinc 1 1, 3) := by decide +kernel
theorem dX10_note_63 : decode cX10_note 63 = .ok (.goto (-23), 3) := by decide +kernel
theorem dX10_note_66 : decode cX10_note 66 = .ok (.aload_n 0, 1) := by decide +kernel
theorem dX10_note_67 : decode cX10_note 67 = .ok (.dup, 1) := by decide +kernel
theorem dX10_note_68 : decode cX10_note 68 = .ok (.getfield 114, 3) := by decide +kernel
theorem dX10_note_71 : decode cX10_note 71 = .ok (.iconst 1, 1) := by decide +kernel
theorem dX10_note_72 : decode cX10_note 72 = .ok (.isub, 1) := by decide +kernel
theorem dX10_note_73 : decode cX10_note 73 = .ok (.putfield 114, 3) := by decide +kernel
theorem dX10_note_76 : decode cX10_note 76 = .ok (.iconst 0, 1) := by decide +kernel
theorem dX10_note_77 : decode cX10_note 77 = .ok (.istore_n 1, 1) := by decide +kernel
theorem dX10_note_78 : decode cX10_note 78 = .ok (.iload_n 1, 1) := by decide +kernel
theorem dX10_note_79 : decode cX10_note 79 = .ok (.bipush 12, 2) := by decide +kernel
theorem dX10_note_81 : decode cX10_note 81 = .ok (.if_icmp .ge 29, 3) := by decide +kernel
theorem dX10_note_84 : decode cX10_note 84 = .ok (.aload_n 0, 1) := by decide +kernel
theorem dX10_note_85 : decode cX10_note 85 = .ok (.getfield 19, 3) := by decide +kernel
theorem dX10_note_88 : decode cX10_note 88 = .ok (.bipush 12, 2) := by decide +kernel
theorem dX10_note_90 : decode cX10_note 90 = .ok (.aload_n 0, 1) := by decide +kernel
theorem dX10_note_91 : decode cX10_note 91 = .ok (.getfield 114, 3) := by decide +kernel
theorem dX10_note_94 : decode cX10_note 94 = .ok (.imul, 1) := by decide +kernel
theorem dX10_note_95 : decode cX10_note 95 = .ok (.iload_n 1, 1) := by decide +kernel
theorem dX10_note_96 : decode cX10_note 96 = .ok (.iadd, 1) := by decide +kernel
theorem dX10_note_97 : decode cX10_note 97 = .ok (.aload_n 0, 1) := by decide +kernel
theorem dX10_note_98 : decode cX10_note 98 = .ok (.getfield 16, 3) := by decide +kernel
theorem dX10_note_101 : decode cX10_note 101 = .ok (.iload_n 1, 1) := by decide +kernel
theorem dX10_note_102 : decode cX10_note 102 = .ok (.iaload, 1) := by decide +kernel
theorem dX10_note_103 : decode cX10_note 103 = .ok (.iastore, 1) := by decide +kernel
theorem dX10_note_104 : decode cX10_note 104 = .ok (.iinc 1 1, 3) := by decide +kernel
theorem dX10_note_107 : decode cX10_note 107 = .ok (.goto (-29), 3) := by decide +kernel
theorem dX10_note_110 : decode cX10_note 110 = .ok (.aload_n 0, 1) := by decide +kernel
theorem dX10_note_111 : decode cX10_note 111 = .ok (.getfield 22, 3) := by decide +kernel
theorem dX10_note_114 : decode cX10_note 114 = .ok (.aload_n 0, 1) := by decide +kernel
theorem dX10_note_115 : decode cX10_note 115 = .ok (.getfield 114, 3) := by decide +kernel
theorem dX10_note_118 : decode cX10_note 118 = .ok (.aload_n 0, 1) := by decide +kernel
theorem dX10_note_119 : decode cX10_note 119 = .ok (.getfield 168, 3) := by decide +kernel
theorem dX10_note_122 : decode cX10_note 122 = .ok (.lastore, 1) := by decide +kernel
theorem dX10_note_123 : decode cX10_note 123 = .ok (.aload_n 0, 1) := by decide +kernel
theorem dX10_note_124 : decode cX10_note 124 = .ok (.dup, 1) := by decide +kernel
theorem dX10_note_125 : decode cX10_note 125 = .ok (.getfield 114, 3) := by decide +kernel
theorem dX10_note_128 : decode cX10_note 128 = .ok (.iconst 1, 1) := by decide +kernel
theorem dX10_note_129 : decode cX10_note 129 = .ok (.iadd, 1) := by decide +kernel
theorem dX10_note_130 : decode cX10_note 130 = .ok (.putfield 114, 3) := by decide +kernel
theorem dX10_note_133 : decode cX10_note 133 = .ok (.return_, 1) := by decide +kernel
set_option maxRecDepth 20000 in
theorem ggX10_ask_X10_slipOf : GoodIn wsX10_ask wsX10_slipOf := goodIn_r _ [9, 10, 11, 12, 13, 14, 8, 15, 16, 17, 18, 19, 20, 51, 52, 53, 54, 55, 56, 57, 58, 59, 60, 61, 62, 63, 64, 65, 66, 67, 68, 69, 70, 71, 72, 73, 74, 75, 76, 77, 78, 79, 80, 81] (by decide +kernel) (by decide +kernel)
set_option maxRecDepth 20000 in
theorem gX10_ask_X10_slipOf : GoodIn wsX10_ask (wsV RX10 126 RX10 yX10_slipOf wsX10_slipOf) := goodIn_app (goodIn_of _ (by decide +kernel)) ggX10_ask_X10_slipOf
set_option maxRecDepth 20000 in
theorem ggX10_ask_X10_note : GoodIn wsX10_ask wsX10_note := goodIn_r _ [24, 25, 26, 27, 2, 28, 51, 52, 53, 54, 55, 56, 57, 58, 59, 60, 61, 62, 63, 64, 65, 66, 67, 68, 69, 70, 71, 72, 73, 74, 75, 76, 77, 78, 79, 80, 81] (by decide +kernel) (by decide +kernel)
set_option maxRecDepth 20000 in
theorem gX10_ask_X10_note : GoodIn wsX10_ask (wsV RX10 172 RX10 yX10_note wsX10_note) := goodIn_app (goodIn_of _ (by decide +kernel)) ggX10_ask_X10_note
set_option maxRecDepth 20000 in
theorem ggX10_ask_X10_answerOf : GoodIn wsX10_ask wsX10_answerOf := goodIn_r _ [32, 33, 34, 35, 8, 36, 10, 11, 37, 12, 13, 14, 15, 16, 17, 18, 19, 20, 38, 39, 40, 41, 42, 43, 44, 51, 52, 53, 54, 55, 56, 57, 58, 59, 60, 61, 62, 63, 64, 65, 66, 67, 68, 69, 70, 71, 72, 73, 74, 75, 76, 77, 78, 79, 80, 81] (by decide +kernel) (by decide +kernel)
set_option maxRecDepth 20000 in
theorem gX10_ask_X10_answerOf : GoodIn wsX10_ask (wsV RX10 158 RX10 yX10_answerOf wsX10_answerOf) := goodIn_app (goodIn_of _ (by decide +kernel)) ggX10_ask_X10_answerOf
set_option maxRecDepth 20000 in
theorem ggX10_ask_X10_part : GoodIn wsX10_ask wsX10_part := goodIn_r _ [48, 16, 49, 50, 38, 39, 8, 40, 29, 30, 31, 32, 33, 34, 35, 36, 10, 11, 37, 12, 13, 14, 15, 17, 18, 19, 20, 41, 42, 43, 44, 51, 52, 53, 54, 55, 56, 57, 58, 59, 60, 61, 62, 63, 64, 65, 66, 67, 68, 69, 70, 71, 72, 73, 74, 75, 76, 77, 78, 79, 80, 81] (by decide +kernel) (by decide +kernel)
set_option maxRecDepth 20000 in
theorem gX10_ask_X10_part : GoodIn wsX10_ask (wsV RX10 175 RX10 yX10_part wsX10_part) := goodIn_app (goodIn_of _ (by decide +kernel)) ggX10_ask_X10_part
theorem dX10_ask_0 : decode cX10_ask 0 = .ok (.aload_n 0, 1) := by decide +kernel
theorem dX10_ask_1 : decode cX10_ask 1 = .ok (.iconst 0, 1) := by decide +kernel
theorem dX10_ask_2 : decode cX10_ask 2 = .ok (.putfield 66, 3) := by decide +kernel
theorem dX10_ask_5 : decode cX10_ask 5 = .ok (.aload_n 0, 1) := by decide +kernel
theorem dX10_ask_6 : decode cX10_ask 6 = .ok (.invokevirtual 126, 3) := by decide +kernel
theorem dX10_ask_9 : decode cX10_ask 9 = .ok (.bipush (-9), 2) := by decide +kernel
theorem dX10_ask_11 : decode cX10_ask 11 = .ok (.if_icmp .ne 35, 3) := by decide +kernel
theorem dX10_ask_14 : decode cX10_ask 14 = .ok (.aload_n 0, 1) := by decide +kernel
theorem dX10_ask_15 : decode cX10_ask 15 = .ok (.getfield 16, 3) := by decide +kernel
theorem dX10_ask_18 : decode cX10_ask 18 = .ok (.bipush 9, 2) := by decide +kernel
theorem dX10_ask_20 : decode cX10_ask 20 = .ok (.iaload, 1) := by decide +kernel
theorem dX10_ask_21 : decode cX10_ask 21 = .ok (.iconst 1, 1) := by decide +kernel
theorem dX10_ask_22 : decode cX10_ask 22 = .ok (.if_icmp .eq 24, 3) := by decide +kernel
theorem dX10_ask_25 : decode cX10_ask 25 = .ok (.aload_n 0, 1) := by decide +kernel
theorem dX10_ask_26 : decode cX10_ask 26 = .ok (.getfield 16, 3) := by decide +kernel
theorem dX10_ask_29 : decode cX10_ask 29 = .ok (.bipush 10, 2) := by decide +kernel
theorem dX10_ask_31 : decode cX10_ask 31 = .ok (.iaload, 1) := by decide +kernel
theorem dX10_ask_32 : decode cX10_ask 32 = .ok (.ifCond .ne 14, 3) := by decide +kernel
theorem dX10_ask_35 : decode cX10_ask 35 = .ok (.aload_n 0, 1) := by decide +kernel
theorem dX10_ask_36 : decode cX10_ask 36 = .ok (.getfield 16, 3) := by decide +kernel
theorem dX10_ask_39 : decode cX10_ask 39 = .ok (.bipush 11, 2) := by decide +kernel
theorem dX10_ask_41 : decode cX10_ask 41 = .ok (.iaload, 1) := by decide +kernel
theorem dX10_ask_42 : decode cX10_ask 42 = .ok (.iconst 3, 1) := by decide +kernel
theorem dX10_ask_43 : decode cX10_ask 43 = .ok (.if_icmp .ne 6, 3) := by decide +kernel
theorem dX10_ask_46 : decode cX10_ask 46 = .ok (.bipush (-3), 2) := by decide +kernel
theorem dX10_ask_48 : decode cX10_ask 48 = .ok (.ireturn, 1) := by decide +kernel
theorem dX10_ask_49 : decode cX10_ask 49 = .ok (.aload_n 0, 1) := by decide +kernel
theorem dX10_ask_50 : decode cX10_ask 50 = .ok (.invokevirtual 172, 3) := by decide +kernel
theorem dX10_ask_53 : decode cX10_ask 53 = .ok (.aload_n 0, 1) := by decide +kernel
theorem dX10_ask_54 : decode cX10_ask 54 = .ok (.bipush (-9), 2) := by decide +kernel
theorem dX10_ask_56 : decode cX10_ask 56 = .ok (.aload_n 0, 1) := by decide +kernel
theorem dX10_ask_57 : decode cX10_ask 57 = .ok (.getfield 16, 3) := by decide +kernel
theorem dX10_ask_60 : decode cX10_ask 60 = .ok (.bipush 7, 2) := by decide +kernel
theorem dX10_ask_62 : decode cX10_ask 62 = .ok (.iaload, 1) := by decide +kernel
theorem dX10_ask_63 : decode cX10_ask 63 = .ok (.aload_n 0, 1) := by decide +kernel
theorem dX10_ask_64 : decode cX10_ask 64 = .ok (.getfield 16, 3) := by decide +kernel
theorem dX10_ask_67 : decode cX10_ask 67 = .ok (.bipush 8, 2) := by decide +kernel
theorem dX10_ask_69 : decode cX10_ask 69 = .ok (.iaload, 1) := by decide +kernel
theorem dX10_ask_70 : decode cX10_ask 70 = .ok (.aload_n 0, 1) := by decide +kernel
theorem dX10_ask_71 : decode cX10_ask 71 = .ok (.getfield 16, 3) := by decide +kernel
theorem dX10_ask_74 : decode cX10_ask 74 = .ok (.bipush 8, 2) := by decide +kernel
theorem dX10_ask_76 : decode cX10_ask 76 = .ok (.iaload, 1) := by decide +kernel
theorem dX10_ask_77 : decode cX10_ask 77 = .ok (.aload_n 0, 1) := by decide +kernel
theorem dX10_ask_78 : decode cX10_ask 78 = .ok (.getfield 105, 3) := by decide +kernel
theorem dX10_ask_81 : decode cX10_ask 81 = .ok (.invokevirtual 158, 3) := by decide +kernel
theorem dX10_ask_84 : decode cX10_ask 84 = .ok (.istore_n 1, 1) := by decide +kernel
theorem dX10_ask_85 : decode cX10_ask 85 = .ok (.aload_n 0, 1) := by decide +kernel
theorem dX10_ask_86 : decode cX10_ask 86 = .ok (.aload_n 0, 1) := by decide +kernel
theorem dX10_ask_87 : decode cX10_ask 87 = .ok (.getfield 16, 3) := by decide +kernel
theorem dX10_ask_90 : decode cX10_ask 90 = .ok (.bipush (-9), 2) := by decide +kernel
theorem dX10_ask_92 : decode cX10_ask 92 = .ok (.aload_n 0, 1) := by decide +kernel
theorem dX10_ask_93 : decode cX10_ask 93 = .ok (.getfield 16, 3) := by decide +kernel
theorem dX10_ask_96 : decode cX10_ask 96 = .ok (.bipush 7, 2) := by decide +kernel
theorem dX10_ask_98 : decode cX10_ask 98 = .ok (.iaload, 1) := by decide +kernel
theorem dX10_ask_99 : decode cX10_ask 99 = .ok (.iload_n 1, 1) := by decide +kernel
theorem dX10_ask_100 : decode cX10_ask 100 = .ok (.aload_n 0, 1) := by decide +kernel
theorem dX10_ask_101 : decode cX10_ask 101 = .ok (.getfield 54, 3) := by decide +kernel
theorem dX10_ask_104 : decode cX10_ask 104 = .ok (.invokevirtual 175, 3) := by decide +kernel
theorem dX10_ask_107 : decode cX10_ask 107 = .ok (.iconst 0, 1) := by decide +kernel
theorem dX10_ask_108 : decode cX10_ask 108 = .ok (.istore_n 2, 1) := by decide +kernel
theorem dX10_ask_109 : decode cX10_ask 109 = .ok (.iload_n 2, 1) := by decide +kernel
theorem dX10_ask_110 : decode cX10_ask 110 = .ok (.bipush 7, 2) := by decide +kernel
theorem dX10_ask_112 : decode cX10_ask 112 = .ok (.if_icmp .ge 21, 3) := by decide +kernel
theorem dX10_ask_115 : decode cX10_ask 115 = .ok (.aload_n 0, 1) := by decide +kernel
theorem dX10_ask_116 : decode cX10_ask 116 = .ok (.getfield 16, 3) := by decide +kernel
theorem dX10_ask_119 : decode cX10_ask 119 = .ok (.iload_n 2, 1) := by decide +kernel
theorem dX10_ask_120 : decode cX10_ask 120 = .ok (.aload_n 0, 1) := by decide +kernel
theorem dX10_ask_121 : decode cX10_ask 121 = .ok (.getfield 54, 3) := by decide +kernel
theorem dX10_ask_124 : decode cX10_ask 124 = .ok (.iload_n 2, 1) := by decide +kernel
theorem dX10_ask_125 : decode cX10_ask 125 = .ok (.iaload, 1) := by decide +kernel
theorem dX10_ask_126 : decode cX10_ask 126 = .ok (.iastore, 1) := by decide +kernel
theorem dX10_ask_127 : decode cX10_ask 127 = .ok (.iinc 2 1, 3) := by decide +kernel
theorem dX10_ask_130 : decode cX10_ask 130 = .ok (.goto (-21), 3) := by decide +kernel
theorem dX10_ask_133 : decode cX10_ask 133 = .ok (.aload_n 0, 1) := by decide +kernel
theorem dX10_ask_134 : decode cX10_ask 134 = .ok (.getfield 16, 3) := by decide +kernel
theorem dX10_ask_137 : decode cX10_ask 137 = .ok (.bipush 9, 2) := by decide +kernel
theorem dX10_ask_139 : decode cX10_ask 139 = .ok (.iconst 1, 1) := by decide +kernel
theorem dX10_ask_140 : decode cX10_ask 140 = .ok (.iastore, 1) := by decide +kernel
theorem dX10_ask_141 : decode cX10_ask 141 = .ok (.aload_n 0, 1) := by decide +kernel
theorem dX10_ask_142 : decode cX10_ask 142 = .ok (.getfield 16, 3) := by decide +kernel
theorem dX10_ask_145 : decode cX10_ask 145 = .ok (.bipush 11, 2) := by decide +kernel
theorem dX10_ask_147 : decode cX10_ask 147 = .ok (.dup2, 1) := by decide +kernel
theorem dX10_ask_148 : decode cX10_ask 148 = .ok (.iaload, 1) := by decide +kernel
theorem dX10_ask_149 : decode cX10_ask 149 = .ok (.iload_n 1, 1) := by decide +kernel
theorem dX10_ask_150 : decode cX10_ask 150 = .ok (.bipush (-9), 2) := by decide +kernel
theorem dX10_ask_152 : decode cX10_ask 152 = .ok (.if_icmp .ne 7, 3) := by decide +kernel
theorem dX10_ask_155 : decode cX10_ask 155 = .ok (.iconst 1, 1) := by decide +kernel
theorem dX10_ask_156 : decode cX10_ask 156 = .ok (.goto 4, 3) := by decide +kernel
theorem dX10_ask_159 : decode cX10_ask 159 = .ok (.iconst 0, 1) := by decide +kernel
theorem dX10_ask_160 : decode cX10_ask 160 = .ok (.iadd, 1) := by decide +kernel
theorem dX10_ask_161 : decode cX10_ask 161 = .ok (.iastore, 1) := by decide +kernel
theorem dX10_ask_162 : decode cX10_ask 162 = .ok (.iload_n 1, 1) := by decide +kernel
theorem dX10_ask_163 : decode cX10_ask 163 = .ok (.ireturn, 1) := by decide +kernel
theorem dX10_drawDay_0 : decode cX10_drawDay 0 = .ok (.aload_n 0, 1) := by decide +kernel
theorem dX10_drawDay_1 : decode cX10_drawDay 1 = .ok (.aload_n 0, 1) := by decide +kernel
theorem dX10_drawDay_2 : decode cX10_drawDay 2 = .ok (.getfield 168, 3) := by decide +kernel
theorem dX10_drawDay_5 : decode cX10_drawDay 5 = .ok (.ldc2_w 179, 3) := by decide +kernel
theorem dX10_drawDay_8 : decode cX10_drawDay 8 = .ok (.lmul, 1) := by decide +kernel
theorem dX10_drawDay_9 : decode cX10_drawDay 9 = .ok (.ldc2_w 181, 3) := by decide +kernel
theorem dX10_drawDay_12 : decode cX10_drawDay 12 = .ok (.ladd, 1) := by decide +kernel
theorem dX10_drawDay_13 : decode cX10_drawDay 13 = .ok (.putfield 168, 3) := by decide +kernel
theorem dX10_drawDay_16 : decode cX10_drawDay 16 = .ok (.aload_n 0, 1) := by decide +kernel
theorem dX10_drawDay_17 : decode cX10_drawDay 17 = .ok (.getfield 168, 3) := by decide +kernel
theorem dX10_drawDay_20 : decode cX10_drawDay 20 = .ok (.bipush 33, 2) := by decide +kernel
theorem dX10_drawDay_22 : decode cX10_drawDay 22 = .ok (.lushr, 1) := by decide +kernel
theorem dX10_drawDay_23 : decode cX10_drawDay 23 = .ok (.ldc2_w 183, 3) := by decide +kernel
theorem dX10_drawDay_26 : decode cX10_drawDay 26 = .ok (.lrem, 1) := by decide +kernel
theorem dX10_drawDay_27 : decode cX10_drawDay 27 = .ok (.l2i, 1) := by decide +kernel
theorem dX10_drawDay_28 : decode cX10_drawDay 28 = .ok (.ireturn, 1) := by decide +kernel
set_option maxRecDepth 20000 in
theorem ggX10_day_X10_note : GoodIn wsX10_day wsX10_note := goodIn_r _ [7, 8, 9, 10, 2, 11, 19, 20, 21, 22, 23, 24, 25, 26, 27, 28, 29, 30, 31, 32, 33, 34, 35, 36, 37, 38, 39, 40, 41, 42, 43, 44, 45, 46, 47, 48, 49] (by decide +kernel) (by decide +kernel)
set_option maxRecDepth 20000 in
theorem gX10_day_X10_note : GoodIn wsX10_day (wsV RX10 172 RX10 yX10_note wsX10_note) := goodIn_app (goodIn_of _ (by decide +kernel)) ggX10_day_X10_note
set_option maxRecDepth 20000 in
theorem ggX10_day_X10_drawDay : GoodIn wsX10_day wsX10_drawDay := goodIn_r _ [15, 11, 16, 17, 18, 19, 20, 21, 22, 23, 24, 25, 26, 27, 28, 29, 30, 31, 32, 33, 34, 35, 36, 37, 38, 39, 40, 41, 42, 43, 44, 45, 46, 47, 48, 49] (by decide +kernel) (by decide +kernel)
set_option maxRecDepth 20000 in
theorem gX10_day_X10_drawDay : GoodIn wsX10_day (wsV RX10 185 RX10 yX10_drawDay wsX10_drawDay) := goodIn_app (goodIn_of _ (by decide +kernel)) ggX10_day_X10_drawDay
theorem dX10_day_0 : decode cX10_day 0 = .ok (.aload_n 0, 1) := by decide +kernel
theorem dX10_day_1 : decode cX10_day 1 = .ok (.iconst 0, 1) := by decide +kernel
theorem dX10_day_2 : decode cX10_day 2 = .ok (.putfield 66, 3) := by decide +kernel
theorem dX10_day_5 : decode cX10_day 5 = .ok (.aload_n 0, 1) := by decide +kernel
theorem dX10_day_6 : decode cX10_day 6 = .ok (.invokevirtual 172, 3) := by decide +kernel
theorem dX10_day_9 : decode cX10_day 9 = .ok (.aload_n 0, 1) := by decide +kernel
theorem dX10_day_10 : decode cX10_day 10 = .ok (.getfield 16, 3) := by decide +kernel
theorem dX10_day_13 : decode cX10_day 13 = .ok (.bipush 9, 2) := by decide +kernel
theorem dX10_day_15 : decode cX10_day 15 = .ok (.iconst 0, 1) := by decide +kernel
theorem dX10_day_16 : decode cX10_day 16 = .ok (.iastore, 1) := by decide +kernel
theorem dX10_day_17 : decode cX10_day 17 = .ok (.aload_n 0, 1) := by decide +kernel
theorem dX10_day_18 : decode cX10_day 18 = .ok (.getfield 16, 3) := by decide +kernel
theorem dX10_day_21 : decode cX10_day 21 = .ok (.bipush 10, 2) := by decide +kernel
theorem dX10_day_23 : decode cX10_day 23 = .ok (.aload_n 0, 1) := by decide +kernel
theorem dX10_day_24 : decode cX10_day 24 = .ok (.getfield 16, 3) := by decide +kernel
theorem dX10_day_27 : decode cX10_day 27 = .ok (.bipush 10, 2) := by decide +kernel
theorem dX10_day_29 : decode cX10_day 29 = .ok (.iaload, 1) := by decide +kernel
theorem dX10_day_30 : decode cX10_day 30 = .ok (.iconst 2, 1) := by decide +kernel
theorem dX10_day_31 : decode cX10_day 31 = .ok (.if_icmp .ne 7, 3) := by decide +kernel
theorem dX10_day_34 : decode cX10_day 34 = .ok (.iconst 0, 1) := by decide +kernel
theorem dX10_day_35 : decode cX10_day 35 = .ok (.goto 10, 3) := by decide +kernel
theorem dX10_day_38 : decode cX10_day 38 = .ok (.aload_n 0, 1) := by decide +kernel
theorem dX10_day_39 : decode cX10_day 39 = .ok (.getfield 16, 3) := by decide +kernel
theorem dX10_day_42 : decode cX10_day 42 = .ok (.bipush 10, 2) := by decide +kernel
theorem dX10_day_44 : decode cX10_day 44 = .ok (.iaload, 1) := by decide +kernel
theorem dX10_day_45 : decode cX10_day 45 = .ok (.iastore, 1) := by decide +kernel
theorem dX10_day_46 : decode cX10_day 46 = .ok (.aload_n 0, 1) := by decide +kernel
theorem dX10_day_47 : decode cX10_day 47 = .ok (.getfield 16, 3) := by decide +kernel
theorem dX10_day_50 : decode cX10_day 50 = .ok (.bipush 7, 2) := by decide +kernel
theorem dX10_day_52 : decode cX10_day 52 = .ok (.dup2, 1) := by decide +kernel
theorem dX10_day_53 : decode cX10_day 53 = .ok (.iaload, 1) := by decide +kernel
theorem dX10_day_54 : decode cX10_day 54 = .ok (.iconst 1, 1) := by decide +kernel
theorem dX10_day_55 : decode cX10_day 55 = .ok (.iadd, 1) := by decide +kernel
theorem dX10_day_56 : decode cX10_day 56 = .ok (.iastore, 1) := by decide +kernel
theorem dX10_day_57 : decode cX10_day 57 = .ok (.aload_n 0, 1) := by decide +kernel
theorem dX10_day_58 : decode cX10_day 58 = .ok (.getfield 16, 3) := by decide +kernel
theorem dX10_day_61 : decode cX10_day 61 = .ok (.bipush 7, 2) := by decide +kernel
theorem dX10_day_63 : decode cX10_day 63 = .ok (.iaload, 1) := by decide +kernel
theorem dX10_day_64 : decode cX10_day 64 = .ok (.bipush 28, 2) := by decide +kernel
theorem dX10_day_66 : decode cX10_day 66 = .ok (.if_icmp .ne 68, 3) := by decide +kernel
theorem dX10_day_69 : decode cX10_day 69 = .ok (.aload_n 0, 1) := by decide +kernel
theorem dX10_day_70 : decode cX10_day 70 = .ok (.getfield 16, 3) := by decide +kernel
theorem dX10_day_73 : decode cX10_day 73 = .ok (.bipush 7, 2) := by decide +kernel
theorem dX10_day_75 : decode cX10_day 75 = .ok (.iconst 0, 1) := by decide +kernel
theorem dX10_day_76 : decode cX10_day 76 = .ok (.iastore, 1) := by decide +kernel
theorem dX10_day_77 : decode cX10_day 77 = .ok (.aload_n 0, 1) := by decide +kernel
theorem dX10_day_78 : decode cX10_day 78 = .ok (.getfield 16, 3) := by decide +kernel
theorem dX10_day_81 : decode cX10_day 81 = .ok (.bipush 8, 2) := by decide +kernel
theorem dX10_day_83 : decode cX10_day 83 = .ok (.aload_n 0, 1) := by decide +kernel
theorem dX10_day_84 : decode cX10_day 84 = .ok (.invokevirtual 185, 3) := by decide +kernel
theorem dX10_day_87 : decode cX10_day 87 = .ok (.iastore, 1) := by decide +kernel
theorem dX10_day_88 : decode cX10_day 88 = .ok (.iconst 0, 1) := by decide +kernel
theorem dX10_day_89 : decode cX10_day 89 = .ok (.istore_n 1, 1) := by decide +kernel
theorem dX10_day_90 : decode cX10_day 90 = .ok (.iconst 0, 1) := by decide +kernel
theorem dX10_day_91 : decode cX10_day 91 = .ok (.istore_n 2, 1) := by decide +kernel
theorem dX10_day_92 : decode cX10_day 92 = .ok (.iload_n 2, 1) := by decide +kernel
theorem dX10_day_93 : decode cX10_day 93 = .ok (.bipush 7, 2) := by decide +kernel
theorem dX10_day_95 : decode cX10_day 95 = .ok (.if_icmp .ge 18, 3) := by decide +kernel
theorem dX10_day_98 : decode cX10_day 98 = .ok (.iload_n 1, 1) := by decide +kernel
theorem dX10_day_99 : decode cX10_day 99 = .ok (.aload_n 0, 1) := by decide +kernel
theorem dX10_day_100 : decode cX10_day 100 = .ok (.getfield 16, 3) := by decide +kernel
theorem dX10_day_103 : decode cX10_day 103 = .ok (.iload_n 2, 1) := by decide +kernel
theorem dX10_day_104 : decode cX10_day 104 = .ok (.iaload, 1) := by decide +kernel
theorem dX10_day_105 : decode cX10_day 105 = .ok (.ior, 1) := by decide +kernel
theorem dX10_day_106 : decode cX10_day 106 = .ok (.istore_n 1, 1) := by decide +kernel
theorem dX10_day_107 : decode cX10_day 107 = .ok (.iinc 2 1, 3) := by decide +kernel
theorem dX10_day_110 : decode cX10_day 110 = .ok (.goto (-18), 3) := by decide +kernel
theorem dX10_day_113 : decode cX10_day 113 = .ok (.iconst 0, 1) := by decide +kernel
theorem dX10_day_114 : decode cX10_day 114 = .ok (.istore_n 2, 1) := by decide +kernel
theorem dX10_day_115 : decode cX10_day 115 = .ok (.iload_n 2, 1) := by decide +kernel
theorem dX10_day_116 : decode cX10_day 116 = .ok (.bipush 7, 2) := by decide +kernel
theorem dX10_day_118 : decode cX10_day 118 = .ok (.if_icmp .ge 16, 3) := by decide +kernel
theorem dX10_day_121 : decode cX10_day 121 = .ok (.aload_n 0, 1) := by decide +kernel
theorem dX10_day_122 : decode cX10_day 122 = .ok (.getfield 16, 3) := by decide +kernel
theorem dX10_day_125 : decode cX10_day 125 = .ok (.iload_n 2, 1) := by decide +kernel
theorem dX10_day_126 : decode cX10_day 126 = .ok (.iload_n 1, 1) := by decide +kernel
theorem dX10_day_127 : decode cX10_day 127 = .ok (.iastore, 1) := by decide +kernel
theorem dX10_day_128 : decode cX10_day 128 = .ok (.iinc 2 1, 3) := by decide +kernel
theorem dX10_day_131 : decode cX10_day 131 = .ok (.goto (-16), 3) := by decide +kernel
theorem dX10_day_134 : decode cX10_day 134 = .ok (.aload_n 0, 1) := by decide +kernel
theorem dX10_day_135 : decode cX10_day 135 = .ok (.getfield 16, 3) := by decide +kernel
theorem dX10_day_138 : decode cX10_day 138 = .ok (.bipush 7, 2) := by decide +kernel
theorem dX10_day_140 : decode cX10_day 140 = .ok (.iaload, 1) := by decide +kernel
theorem dX10_day_141 : decode cX10_day 141 = .ok (.ireturn, 1) := by decide +kernel
set_option maxRecDepth 20000 in
theorem ggX10_cloth_X10_note : GoodIn wsX10_cloth wsX10_note := goodIn_r _ [7, 8, 9, 10, 2, 11, 12, 13, 14, 15, 16, 17, 18, 19, 20, 21, 22, 23, 24, 25, 26, 27, 28, 29, 30, 31, 32, 33, 34, 35, 36, 37, 38, 39, 40, 41, 42] (by decide +kernel) (by decide +kernel)
set_option maxRecDepth 20000 in
theorem gX10_cloth_X10_note : GoodIn wsX10_cloth (wsV RX10 172 RX10 yX10_note wsX10_note) := goodIn_app (goodIn_of _ (by decide +kernel)) ggX10_cloth_X10_note
theorem dX10_cloth_0 : decode cX10_cloth 0 = .ok (.aload_n 0, 1) := by decide +kernel
theorem dX10_cloth_1 : decode cX10_cloth 1 = .ok (.iconst 0, 1) := by decide +kernel
theorem dX10_cloth_2 : decode cX10_cloth 2 = .ok (.putfield 66, 3) := by decide +kernel
theorem dX10_cloth_5 : decode cX10_cloth 5 = .ok (.aload_n 0, 1) := by decide +kernel
theorem dX10_cloth_6 : decode cX10_cloth 6 = .ok (.invokevirtual 172, 3) := by decide +kernel
theorem dX10_cloth_9 : decode cX10_cloth 9 = .ok (.aload_n 0, 1) := by decide +kernel
theorem dX10_cloth_10 : decode cX10_cloth 10 = .ok (.getfield 16, 3) := by decide +kernel
theorem dX10_cloth_13 : decode cX10_cloth 13 = .ok (.bipush 10, 2) := by decide +kernel
theorem dX10_cloth_15 : decode cX10_cloth 15 = .ok (.aload_n 0, 1) := by decide +kernel
theorem dX10_cloth_16 : decode cX10_cloth 16 = .ok (.getfield 16, 3) := by decide +kernel
theorem dX10_cloth_19 : decode cX10_cloth 19 = .ok (.bipush 10, 2) := by decide +kernel
theorem dX10_cloth_21 : decode cX10_cloth 21 = .ok (.iaload, 1) := by decide +kernel
theorem dX10_cloth_22 : decode cX10_cloth 22 = .ok (.iconst 1, 1) := by decide +kernel
theorem dX10_cloth_23 : decode cX10_cloth 23 = .ok (.if_icmp .ne 7, 3) := by decide +kernel
theorem dX10_cloth_26 : decode cX10_cloth 26 = .ok (.iconst 2, 1) := by decide +kernel
theorem dX10_cloth_27 : decode cX10_cloth 27 = .ok (.goto 4, 3) := by decide +kernel
theorem dX10_cloth_30 : decode cX10_cloth 30 = .ok (.iconst 1, 1) := by decide +kernel
theorem dX10_cloth_31 : decode cX10_cloth 31 = .ok (.iastore, 1) := by decide +kernel
theorem dX10_cloth_32 : decode cX10_cloth 32 = .ok (.aload_n 0, 1) := by decide +kernel
theorem dX10_cloth_33 : decode cX10_cloth 33 = .ok (.getfield 16, 3) := by decide +kernel
theorem dX10_cloth_36 : decode cX10_cloth 36 = .ok (.bipush 10, 2) := by decide +kernel
theorem dX10_cloth_38 : decode cX10_cloth 38 = .ok (.iaload, 1) := by decide +kernel
theorem dX10_cloth_39 : decode cX10_cloth 39 = .ok (.iconst 1, 1) := by decide +kernel
theorem dX10_cloth_40 : decode cX10_cloth 40 = .ok (.if_icmp .ne 7, 3) := by decide +kernel
theorem dX10_cloth_43 : decode cX10_cloth 43 = .ok (.iconst 1, 1) := by decide +kernel
theorem dX10_cloth_44 : decode cX10_cloth 44 = .ok (.goto 4, 3) := by decide +kernel
theorem dX10_cloth_47 : decode cX10_cloth 47 = .ok (.iconst 0, 1) := by decide +kernel
theorem dX10_cloth_48 : decode cX10_cloth 48 = .ok (.ireturn, 1) := by decide +kernel
theorem dX10_undo_0 : decode cX10_undo 0 = .ok (.aload_n 0, 1) := by decide +kernel
theorem dX10_undo_1 : decode cX10_undo 1 = .ok (.iconst 0, 1) := by decide +kernel
theorem dX10_undo_2 : decode cX10_undo 2 = .ok (.putfield 66, 3) := by decide +kernel
theorem dX10_undo_5 : decode cX10_undo 5 = .ok (.aload_n 0, 1) := by decide +kernel
theorem dX10_undo_6 : decode cX10_undo 6 = .ok (.getfield 114, 3) := by decide +kernel
theorem dX10_undo_9 : decode cX10_undo 9 = .ok (.ifCond .ne 6, 3) := by decide +kernel
theorem dX10_undo_12 : decode cX10_undo 12 = .ok (.bipush (-3), 2) := by decide +kernel
theorem dX10_undo_14 : decode cX10_undo 14 = .ok (.ireturn, 1) := by decide +kernel
theorem dX10_undo_15 : decode cX10_undo 15 = .ok (.aload_n 0, 1) := by decide +kernel
theorem dX10_undo_16 : decode cX10_undo 16 = .ok (.dup, 1) := by decide +kernel
theorem dX10_undo_17 : decode cX10_undo 17 = .ok (.getfield 114, 3) := by decide +kernel
theorem dX10_undo_20 : decode cX10_undo 20 = .ok (.iconst 1, 1) := by decide +kernel
theorem dX10_undo_21 : decode cX10_undo 21 = .ok (.isub, 1) := by decide +kernel
theorem dX10_undo_22 : decode cX10_undo 22 = .ok (.putfield 114, 3) := by decide +kernel
theorem dX10_undo_25 : decode cX10_undo 25 = .ok (.iconst 0, 1) := by decide +kernel
theorem dX10_undo_26 : decode cX10_undo 26 = .ok (.istore_n 1, 1) := by decide +kernel
theorem dX10_undo_27 : decode cX10_undo 27 = .ok (.iload_n 1, 1) := by decide +kernel
theorem dX10_undo_28 : decode cX10_undo 28 = .ok (.bipush 12, 2) := by decide +kernel
theorem dX10_undo_30 : decode cX10_undo 30 = .ok (.if_icmp .ge 29, 3) := by decide +kernel
theorem dX10_undo_33 : decode cX10_undo 33 = .ok (.aload_n 0, 1) := by decide +kernel
theorem dX10_undo_34 : decode cX10_undo 34 = .ok (.getfield 16, 3) := by decide +kernel
theorem dX10_undo_37 : decode cX10_undo 37 = .ok (.iload_n 1, 1) := by decide +kernel
theorem dX10_undo_38 : decode cX10_undo 38 = .ok (.aload_n 0, 1) := by decide +kernel
theorem dX10_undo_39 : decode cX10_undo 39 = .ok (.getfield 19, 3) := by decide +kernel
theorem dX10_undo_42 : decode cX10_undo 42 = .ok (.bipush 12, 2) := by decide +kernel
theorem dX10_undo_44 : decode cX10_undo 44 = .ok (.aload_n 0, 1) := by decide +kernel
theorem dX10_undo_45 : decode cX10_undo 45 = .ok (.getfield 114, 3) := by decide +kernel
theorem dX10_undo_48 : decode cX10_undo 48 = .ok (.imul, 1) := by decide +kernel
theorem dX10_undo_49 : decode cX10_undo 49 = .ok (.iload_n 1, 1) := by decide +kernel
theorem dX10_undo_50 : decode cX10_undo 50 = .ok (.iadd, 1) := by decide +kernel
theorem dX10_undo_51 : decode cX10_undo 51 = .ok (.iaload, 1) := by decide +kernel
theorem dX10_undo_52 : decode cX10_undo 52 = .ok (.iastore, 1) := by decide +kernel
theorem dX10_undo_53 : decode cX10_undo 53 = .ok (.iinc 1 1, 3) := by decide +kernel
theorem dX10_undo_56 : decode cX10_undo 56 = .ok (.goto (-29), 3) := by decide +kernel
theorem dX10_undo_59 : decode cX10_undo 59 = .ok (.aload_n 0, 1) := by decide +kernel
theorem dX10_undo_60 : decode cX10_undo 60 = .ok (.aload_n 0, 1) := by decide +kernel
theorem dX10_undo_61 : decode cX10_undo 61 = .ok (.getfield 22, 3) := by decide +kernel
theorem dX10_undo_64 : decode cX10_undo 64 = .ok (.aload_n 0, 1) := by decide +kernel
theorem dX10_undo_65 : decode cX10_undo 65 = .ok (.getfield 114, 3) := by decide +kernel
theorem dX10_undo_68 : decode cX10_undo 68 = .ok (.laload, 1) := by decide +kernel
theorem dX10_undo_69 : decode cX10_undo 69 = .ok (.putfield 168, 3) := by decide +kernel
theorem dX10_undo_72 : decode cX10_undo 72 = .ok (.aload_n 0, 1) := by decide +kernel
theorem dX10_undo_73 : decode cX10_undo 73 = .ok (.getfield 114, 3) := by decide +kernel
theorem dX10_undo_76 : decode cX10_undo 76 = .ok (.ireturn, 1) := by decide +kernel
set_option maxRecDepth 20000 in
theorem ggX10_answer_X10_in : GoodIn wsX10_answer wsX10_in := goodIn_r _ [8] (by decide +kernel) (by decide +kernel)
set_option maxRecDepth 20000 in
theorem gX10_answer_X10_in : GoodIn wsX10_answer (va_wsS RX10 72 yX10_in wsX10_in) := goodIn_app (goodIn_of _ (by decide +kernel)) ggX10_answer_X10_in
set_option maxRecDepth 20000 in
theorem ggX10_answer_X10_slipOf : GoodIn wsX10_answer wsX10_slipOf := goodIn_r _ [12, 13, 14, 15, 16, 17, 7, 18, 3, 2, 5, 6, 8, 35, 36, 37, 38, 39, 40, 41, 42, 43, 44, 45, 46, 47, 48, 49, 50, 51, 52, 53, 54, 55, 56, 57, 58, 59, 60, 61, 62, 63, 64, 65] (by decide +kernel) (by decide +kernel)
set_option maxRecDepth 20000 in
theorem gX10_answer_X10_slipOf : GoodIn wsX10_answer (wsV RX10 126 RX10 yX10_slipOf wsX10_slipOf) := goodIn_app (goodIn_of _ (by decide +kernel)) ggX10_answer_X10_slipOf
set_option maxRecDepth 20000 in
theorem ggX10_answer_X10_answerOf : GoodIn wsX10_answer wsX10_answerOf := goodIn_r _ [22, 23, 24, 25, 7, 26, 13, 14, 27, 15, 16, 17, 18, 3, 2, 5, 6, 8, 28, 29, 30, 31, 32, 33, 34, 35, 36, 37, 38, 39, 40, 41, 42, 43, 44, 45, 46, 47, 48, 49, 50, 51, 52, 53, 54, 55, 56, 57, 58, 59, 60, 61, 62, 63, 64, 65] (by decide +kernel) (by decide +kernel)
set_option maxRecDepth 20000 in
theorem gX10_answer_X10_answerOf : GoodIn wsX10_answer (wsV RX10 158 RX10 yX10_answerOf wsX10_answerOf) := goodIn_app (goodIn_of _ (by decide +kernel)) ggX10_answer_X10_answerOf
theorem dX10_answer_0 : decode cX10_answer 0 = .ok (.aload_n 0, 1) := by decide +kernel
theorem dX10_answer_1 : decode cX10_answer 1 = .ok (.iconst 0, 1) := by decide +kernel
theorem dX10_answer_2 : decode cX10_answer 2 = .ok (.putfield 66, 3) := by decide +kernel
theorem dX10_answer_5 : decode cX10_answer 5 = .ok (.iload_n 1, 1) := by decide +kernel
theorem dX10_answer_6 : decode cX10_answer 6 = .ok (.i2l, 1) := by decide +kernel
theorem dX10_answer_7 : decode cX10_answer 7 = .ok (.lconst 0, 1) := by decide +kernel
theorem dX10_answer_8 : decode cX10_answer 8 = .ok (.ldc2_w 120, 3) := by decide +kernel
theorem dX10_answer_11 : decode cX10_answer 11 = .ok (.invokestatic 72, 3) := by decide +kernel
theorem dX10_answer_14 : decode cX10_answer 14 = .ok (.ifCond .eq 21, 3) := by decide +kernel
theorem dX10_answer_17 : decode cX10_answer 17 = .ok (.iload_n 2, 1) := by decide +kernel
theorem dX10_answer_18 : decode cX10_answer 18 = .ok (.i2l, 1) := by decide +kernel
theorem dX10_answer_19 : decode cX10_answer 19 = .ok (.lconst 0, 1) := by decide +kernel
theorem dX10_answer_20 : decode cX10_answer 20 = .ok (.iconst 1, 1) := by decide +kernel
theorem dX10_answer_21 : decode cX10_answer 21 = .ok (.aload_n 0, 1) := by decide +kernel
theorem dX10_answer_22 : decode cX10_answer 22 = .ok (.getfield 102, 3) := by decide +kernel
theorem dX10_answer_25 : decode cX10_answer 25 = .ok (.ishl, 1) := by decide +kernel
theorem dX10_answer_26 : decode cX10_answer 26 = .ok (.iconst 1, 1) := by decide +kernel
theorem dX10_answer_27 : decode cX10_answer 27 = .ok (.isub, 1) := by decide +kernel
theorem dX10_answer_28 : decode cX10_answer 28 = .ok (.i2l, 1) := by decide +kernel
theorem dX10_answer_29 : decode cX10_answer 29 = .ok (.invokestatic 72, 3) := by decide +kernel
theorem dX10_answer_32 : decode cX10_answer 32 = .ok (.ifCond .ne 6, 3) := by decide +kernel
theorem dX10_answer_35 : decode cX10_answer 35 = .ok (.bipush (-2), 2) := by decide +kernel
theorem dX10_answer_37 : decode cX10_answer 37 = .ok (.ireturn, 1) := by decide +kernel
theorem dX10_answer_38 : decode cX10_answer 38 = .ok (.aload_n 0, 1) := by decide +kernel
theorem dX10_answer_39 : decode cX10_answer 39 = .ok (.invokevirtual 126, 3) := by decide +kernel
theorem dX10_answer_42 : decode cX10_answer 42 = .ok (.bipush (-9), 2) := by decide +kernel
theorem dX10_answer_44 : decode cX10_answer 44 = .ok (.if_icmp .eq 8, 3) := by decide +kernel
theorem dX10_answer_47 : decode cX10_answer 47 = .ok (.bipush (-3), 2) := by decide +kernel
theorem dX10_answer_49 : decode cX10_answer 49 = .ok (.goto 19, 3) := by decide +kernel
theorem dX10_answer_52 : decode cX10_answer 52 = .ok (.aload_n 0, 1) := by decide +kernel
theorem dX10_answer_53 : decode cX10_answer 53 = .ok (.bipush (-9), 2) := by decide +kernel
theorem dX10_answer_55 : decode cX10_answer 55 = .ok (.aload_n 0, 1) := by decide +kernel
theorem dX10_answer_56 : decode cX10_answer 56 = .ok (.getfield 16, 3) := by decide +kernel
theorem dX10_answer_59 : decode cX10_answer 59 = .ok (.bipush 7, 2) := by decide +kernel
theorem dX10_answer_61 : decode cX10_answer 61 = .ok (.iaload, 1) := by decide +kernel
theorem dX10_answer_62 : decode cX10_answer 62 = .ok (.iload_n 1, 1) := by decide +kernel
theorem dX10_answer_63 : decode cX10_answer 63 = .ok (.iload_n 1, 1) := by decide +kernel
theorem dX10_answer_64 : decode cX10_answer 64 = .ok (.iload_n 2, 1) := by decide +kernel
theorem dX10_answer_65 : decode cX10_answer 65 = .ok (.invokevirtual 158, 3) := by decide +kernel
theorem dX10_answer_68 : decode cX10_answer 68 = .ok (.ireturn, 1) := by decide +kernel
set_option maxRecDepth 20000 in
theorem ggX10_partMany_X10_part : GoodIn wsX10_partMany wsX10_part := goodIn_r _ [7, 8, 9, 10, 11, 12, 6, 13, 14, 15, 16, 17, 18, 19, 20, 21, 22, 23, 24, 25, 26, 27, 28, 29, 30, 31, 32, 33, 34, 35, 36, 43, 44, 45, 46, 47, 48, 49, 50, 51, 52, 53, 54, 55, 56, 57, 58, 59, 60, 61, 62, 63, 64, 65, 66, 67, 68, 69, 70, 71, 72, 73] (by decide +kernel) (by decide +kernel)
set_option maxRecDepth 20000 in
theorem gX10_partMany_X10_part : GoodIn wsX10_partMany (wsV RX10 175 RX10 yX10_part wsX10_part) := goodIn_app (goodIn_of _ (by decide +kernel)) ggX10_partMany_X10_part
set_option maxRecDepth 20000 in
theorem ggX10_partMany_X10_knownMany : GoodIn wsX10_partMany wsX10_knownMany := goodIn_r _ [39, 40, 41, 6, 42] (by decide +kernel) (by decide +kernel)
set_option maxRecDepth 20000 in
theorem gX10_partMany_X10_knownMany : GoodIn wsX10_partMany (va_wsS RX10 132 yX10_knownMany wsX10_knownMany) := goodIn_app (goodIn_of _ (by decide +kernel)) ggX10_partMany_X10_knownMany
theorem dX10_partMany_0 : decode cX10_partMany 0 = .ok (.aload_n 0, 1) := by decide +kernel
theorem dX10_partMany_1 : decode cX10_partMany 1 = .ok (.aload_n 0, 1) := by decide +kernel
theorem dX10_partMany_2 : decode cX10_partMany 2 = .ok (.getfield 16, 3) := by decide +kernel
theorem dX10_partMany_5 : decode cX10_partMany 5 = .ok (.iload_n 1, 1) := by decide +kernel
theorem dX10_partMany_6 : decode cX10_partMany 6 = .ok (.aload_n 0, 1) := by decide +kernel
theorem dX10_partMany_7 : decode cX10_partMany 7 = .ok (.getfield 16, 3) := by decide +kernel
theorem dX10_partMany_10 : decode cX10_partMany 10 = .ok (.bipush 7, 2) := by decide +kernel
theorem dX10_partMany_12 : decode cX10_partMany 12 = .ok (.iaload, 1) := by decide +kernel
theorem dX10_partMany_13 : decode cX10_partMany 13 = .ok (.iload_n 2, 1) := by decide +kernel
theorem dX10_partMany_14 : decode cX10_partMany 14 = .ok (.iconst 2, 1) := by decide +kernel
theorem dX10_partMany_15 : decode cX10_partMany 15 = .ok (.if_icmp .ne 8, 3) := by decide +kernel
theorem dX10_partMany_18 : decode cX10_partMany 18 = .ok (.bipush (-9), 2) := by decide +kernel
theorem dX10_partMany_20 : decode cX10_partMany 20 = .ok (.goto 4, 3) := by decide +kernel
theorem dX10_partMany_23 : decode cX10_partMany 23 = .ok (.iload_n 2, 1) := by decide +kernel
theorem dX10_partMany_24 : decode cX10_partMany 24 = .ok (.aload_n 0, 1) := by decide +kernel
theorem dX10_partMany_25 : decode cX10_partMany 25 = .ok (.getfield 54, 3) := by decide +kernel
theorem dX10_partMany_28 : decode cX10_partMany 28 = .ok (.invokevirtual 175, 3) := by decide +kernel
theorem dX10_partMany_31 : decode cX10_partMany 31 = .ok (.aload_n 0, 1) := by decide +kernel
theorem dX10_partMany_32 : decode cX10_partMany 32 = .ok (.getfield 54, 3) := by decide +kernel
theorem dX10_partMany_35 : decode cX10_partMany 35 = .ok (.invokestatic 132, 3) := by decide +kernel
theorem dX10_partMany_38 : decode cX10_partMany 38 = .ok (.ireturn, 1) := by decide +kernel
set_option maxRecDepth 20000 in
theorem ggX10_parts_X10_in : GoodIn wsX10_parts wsX10_in := goodIn_r _ [6] (by decide +kernel) (by decide +kernel)
set_option maxRecDepth 20000 in
theorem gX10_parts_X10_in : GoodIn wsX10_parts (va_wsS RX10 72 yX10_in wsX10_in) := goodIn_app (goodIn_of _ (by decide +kernel)) ggX10_parts_X10_in
set_option maxRecDepth 20000 in
theorem ggX10_parts_X10_slipOf : GoodIn wsX10_parts wsX10_slipOf := goodIn_r _ [10, 11, 12, 13, 14, 15, 5, 16, 17, 18, 3, 4, 6, 53, 54, 55, 56, 57, 58, 59, 60, 61, 62, 63, 64, 65, 66, 67, 68, 69, 70, 71, 72, 73, 74, 75, 76, 77, 78, 79, 80, 81, 82, 83] (by decide +kernel) (by decide +kernel)
set_option maxRecDepth 20000 in
theorem gX10_parts_X10_slipOf : GoodIn wsX10_parts (wsV RX10 126 RX10 yX10_slipOf wsX10_slipOf) := goodIn_app (goodIn_of _ (by decide +kernel)) ggX10_parts_X10_slipOf
set_option maxRecDepth 20000 in
theorem ggX10_parts_X10_partMany : GoodIn wsX10_parts wsX10_partMany := goodIn_r _ [22, 23, 24, 25, 26, 27, 5, 28, 17, 29, 30, 31, 32, 33, 34, 35, 36, 37, 38, 39, 40, 41, 11, 12, 42, 13, 14, 15, 16, 18, 3, 4, 6, 43, 44, 45, 46, 47, 48, 49, 50, 51, 52, 53, 54, 55, 56, 57, 58, 59, 60, 61, 62, 63, 64, 65, 66, 67, 68, 69, 70, 71, 72, 73, 74, 75, 76, 77, 78, 79, 80, 81, 82, 83] (by decide +kernel) (by decide +kernel)
set_option maxRecDepth 20000 in
theorem gX10_parts_X10_partMany : GoodIn wsX10_parts (wsV RX10 190 RX10 yX10_partMany wsX10_partMany) := goodIn_app (goodIn_of _ (by decide +kernel)) ggX10_parts_X10_partMany
theorem dX10_parts_0 : decode cX10_parts 0 = .ok (.aload_n 0, 1) := by decide +kernel
theorem dX10_parts_1 : decode cX10_parts 1 = .ok (.iconst 0, 1) := by decide +kernel
theorem dX10_parts_2 : decode cX10_parts 2 = .ok (.putfield 66, 3) := by decide +kernel
theorem dX10_parts_5 : decode cX10_parts 5 = .ok (.iload_n 1, 1) := by decide +kernel
theorem dX10_parts_6 : decode cX10_parts 6 = .ok (.i2l, 1) := by decide +kernel
theorem dX10_parts_7 : decode cX10_parts 7 = .ok (.lconst 0, 1) := by decide +kernel
theorem dX10_parts_8 : decode cX10_parts 8 = .ok (.ldc2_w 188, 3) := by decide +kernel
theorem dX10_parts_11 : decode cX10_parts 11 = .ok (.invokestatic 72, 3) := by decide +kernel
theorem dX10_parts_14 : decode cX10_parts 14 = .ok (.ifCond .ne 6, 3) := by decide +kernel
theorem dX10_parts_17 : decode cX10_parts 17 = .ok (.bipush (-2), 2) := by decide +kernel
theorem dX10_parts_19 : decode cX10_parts 19 = .ok (.ireturn, 1) := by decide +kernel
theorem dX10_parts_20 : decode cX10_parts 20 = .ok (.aload_n 0, 1) := by decide +kernel
theorem dX10_parts_21 : decode cX10_parts 21 = .ok (.invokevirtual 126, 3) := by decide +kernel
theorem dX10_parts_24 : decode cX10_parts 24 = .ok (.bipush (-9), 2) := by decide +kernel
theorem dX10_parts_26 : decode cX10_parts 26 = .ok (.if_icmp .eq 8, 3) := by decide +kernel
theorem dX10_parts_29 : decode cX10_parts 29 = .ok (.bipush (-3), 2) := by decide +kernel
theorem dX10_parts_31 : decode cX10_parts 31 = .ok (.goto 10, 3) := by decide +kernel
theorem dX10_parts_34 : decode cX10_parts 34 = .ok (.aload_n 0, 1) := by decide +kernel
theorem dX10_parts_35 : decode cX10_parts 35 = .ok (.bipush (-9), 2) := by decide +kernel
theorem dX10_parts_37 : decode cX10_parts 37 = .ok (.iload_n 1, 1) := by decide +kernel
theorem dX10_parts_38 : decode cX10_parts 38 = .ok (.invokevirtual 190, 3) := by decide +kernel
theorem dX10_parts_41 : decode cX10_parts 41 = .ok (.ireturn, 1) := by decide +kernel
set_option maxRecDepth 20000 in
theorem ggX10_simpleParts_X10_noSimple : GoodIn wsX10_simpleParts wsX10_noSimple := goodIn_r _ [7, 8, 9, 10, 11, 12, 13, 6, 14, 56, 57, 58, 59, 60, 61, 62, 63, 64, 65, 66, 67, 68, 69, 70, 71, 72, 73, 74, 75, 76, 77, 78, 79, 80, 81, 82, 83, 84, 85, 86] (by decide +kernel) (by decide +kernel)
set_option maxRecDepth 20000 in
theorem gX10_simpleParts_X10_noSimple : GoodIn wsX10_simpleParts (wsV RX10 193 RX10 yX10_noSimple wsX10_noSimple) := goodIn_app (goodIn_of _ (by decide +kernel)) ggX10_simpleParts_X10_noSimple
set_option maxRecDepth 20000 in
theorem ggX10_simpleParts_X10_in : GoodIn wsX10_simpleParts wsX10_in := goodIn_r _ [14] (by decide +kernel) (by decide +kernel)
set_option maxRecDepth 20000 in
theorem gX10_simpleParts_X10_in : GoodIn wsX10_simpleParts (va_wsS RX10 72 yX10_in wsX10_in) := goodIn_app (goodIn_of _ (by decide +kernel)) ggX10_simpleParts_X10_in
set_option maxRecDepth 20000 in
theorem ggX10_simpleParts_X10_partMany : GoodIn wsX10_simpleParts wsX10_partMany := goodIn_r _ [18, 19, 20, 21, 22, 23, 6, 24, 9, 25, 26, 27, 28, 29, 30, 31, 32, 33, 34, 35, 36, 37, 38, 39, 40, 41, 42, 43, 44, 45, 12, 13, 14, 46, 47, 48, 49, 50, 51, 52, 53, 54, 55, 56, 57, 58, 59, 60, 61, 62, 63, 64, 65, 66, 67, 68, 69, 70, 71, 72, 73, 74, 75, 76, 77, 78, 79, 80, 81, 82, 83, 84, 85, 86] (by decide +kernel) (by decide +kernel)
set_option maxRecDepth 20000 in
theorem gX10_simpleParts_X10_partMany : GoodIn wsX10_simpleParts (wsV RX10 190 RX10 yX10_partMany wsX10_partMany) := goodIn_app (goodIn_of _ (by decide +kernel)) ggX10_simpleParts_X10_partMany
theorem dX10_simpleParts_0 : decode cX10_simpleParts 0 = .ok (.aload_n 0, 1) := by decide +kernel
theorem dX10_simpleParts_1 : decode cX10_simpleParts 1 = .ok (.iconst 0, 1) := by decide +kernel
theorem dX10_simpleParts_2 : decode cX10_simpleParts 2 = .ok (.putfield 66, 3) := by decide +kernel
theorem dX10_simpleParts_5 : decode cX10_simpleParts 5 = .ok (.aload_n 0, 1) := by decide +kernel
theorem dX10_simpleParts_6 : decode cX10_simpleParts 6 = .ok (.iload_n 1, 1) := by decide +kernel
theorem dX10_simpleParts_7 : decode cX10_simpleParts 7 = .ok (.invokevirtual 193, 3) := by decide +kernel
theorem dX10_simpleParts_10 : decode cX10_simpleParts 10 = .ok (.ifCond .ne 15, 3) := by decide +kernel
theorem dX10_simpleParts_13 : decode cX10_simpleParts 13 = .ok (.iload_n 2, 1) := by decide +kernel
theorem dX10_simpleParts_14 : decode cX10_simpleParts 14 = .ok (.i2l, 1) := by decide +kernel
theorem dX10_simpleParts_15 : decode cX10_simpleParts 15 = .ok (.lconst 0, 1) := by decide +kernel
theorem dX10_simpleParts_16 : decode cX10_simpleParts 16 = .ok (.ldc2_w 188, 3) := by decide +kernel
theorem dX10_simpleParts_19 : decode cX10_simpleParts 19 = .ok (.invokestatic 72, 3) := by decide +kernel
theorem dX10_simpleParts_22 : decode cX10_simpleParts 22 = .ok (.ifCond .ne 8, 3) := by decide +kernel
theorem dX10_simpleParts_25 : decode cX10_simpleParts 25 = .ok (.bipush (-2), 2) := by decide +kernel
theorem dX10_simpleParts_27 : decode cX10_simpleParts 27 = .ok (.goto 9, 3) := by decide +kernel
theorem dX10_simpleParts_30 : decode cX10_simpleParts 30 = .ok (.aload_n 0, 1) := by decide +kernel
theorem dX10_simpleParts_31 : decode cX10_simpleParts 31 = .ok (.iload_n 1, 1) := by decide +kernel
theorem dX10_simpleParts_32 : decode cX10_simpleParts 32 = .ok (.iload_n 2, 1) := by decide +kernel
theorem dX10_simpleParts_33 : decode cX10_simpleParts 33 = .ok (.invokevirtual 190, 3) := by decide +kernel
theorem dX10_simpleParts_36 : decode cX10_simpleParts 36 = .ok (.ireturn, 1) := by decide +kernel
set_option maxRecDepth 20000 in
theorem ggX10_toAsk_X10_noSimple : GoodIn wsX10_toAsk wsX10_noSimple := goodIn_r _ [6, 7, 8, 9, 10, 11, 12, 5, 13, 55, 56, 57, 58, 59, 60, 61, 62, 63, 64, 65, 66, 67, 68, 69, 70, 71, 72, 73, 74, 75, 76, 77, 78, 79, 80, 81, 82, 83, 84, 85] (by decide +kernel) (by decide +kernel)
set_option maxRecDepth 20000 in
theorem gX10_toAsk_X10_noSimple : GoodIn wsX10_toAsk (wsV RX10 193 RX10 yX10_noSimple wsX10_noSimple) := goodIn_app (goodIn_of _ (by decide +kernel)) ggX10_toAsk_X10_noSimple
set_option maxRecDepth 20000 in
theorem ggX10_toAsk_X10_partMany : GoodIn wsX10_toAsk wsX10_partMany := goodIn_r _ [17, 18, 19, 20, 21, 22, 5, 23, 8, 24, 25, 26, 27, 28, 29, 30, 31, 32, 33, 34, 35, 36, 37, 38, 39, 40, 41, 42, 43, 44, 11, 12, 13, 45, 46, 47, 48, 49, 50, 51, 52, 53, 54, 55, 56, 57, 58, 59, 60, 61, 62, 63, 64, 65, 66, 67, 68, 69, 70, 71, 72, 73, 74, 75, 76, 77, 78, 79, 80, 81, 82, 83, 84, 85] (by decide +kernel) (by decide +kernel)
set_option maxRecDepth 20000 in
theorem gX10_toAsk_X10_partMany : GoodIn wsX10_toAsk (wsV RX10 190 RX10 yX10_partMany wsX10_partMany) := goodIn_app (goodIn_of _ (by decide +kernel)) ggX10_toAsk_X10_partMany
theorem dX10_toAsk_0 : decode cX10_toAsk 0 = .ok (.aload_n 0, 1) := by decide +kernel
theorem dX10_toAsk_1 : decode cX10_toAsk 1 = .ok (.iconst 0, 1) := by decide +kernel
theorem dX10_toAsk_2 : decode cX10_toAsk 2 = .ok (.putfield 66, 3) := by decide +kernel
theorem dX10_toAsk_5 : decode cX10_toAsk 5 = .ok (.bipush (-9), 2) := by decide +kernel
theorem dX10_toAsk_7 : decode cX10_toAsk 7 = .ok (.istore_n 1, 1) := by decide +kernel
theorem dX10_toAsk_8 : decode cX10_toAsk 8 = .ok (.iconst 0, 1) := by decide +kernel
theorem dX10_toAsk_9 : decode cX10_toAsk 9 = .ok (.istore_n 2, 1) := by decide +kernel
theorem dX10_toAsk_10 : decode cX10_toAsk 10 = .ok (.iconst 0, 1) := by decide +kernel
theorem dX10_toAsk_11 : decode cX10_toAsk 11 = .ok (.istore_n 3, 1) := by decide +kernel
theorem dX10_toAsk_12 : decode cX10_toAsk 12 = .ok (.iload_n 3, 1) := by decide +kernel
theorem dX10_toAsk_13 : decode cX10_toAsk 13 = .ok (.bipush 19, 2) := by decide +kernel
theorem dX10_toAsk_15 : decode cX10_toAsk 15 = .ok (.if_icmp .ge 77, 3) := by decide +kernel
theorem dX10_toAsk_18 : decode cX10_toAsk 18 = .ok (.aload_n 0, 1) := by decide +kernel
theorem dX10_toAsk_19 : decode cX10_toAsk 19 = .ok (.iload_n 3, 1) := by decide +kernel
theorem dX10_toAsk_20 : decode cX10_toAsk 20 = .ok (.invokevirtual 193, 3) := by decide +kernel
theorem dX10_toAsk_23 : decode cX10_toAsk 23 = .ok (.ifCond .ne 63, 3) := by decide +kernel
theorem dX10_toAsk_26 : decode cX10_toAsk 26 = .ok (.iconst 0, 1) := by decide +kernel
theorem dX10_toAsk_27 : decode cX10_toAsk 27 = .ok (.istore 4, 2) := by decide +kernel
theorem dX10_toAsk_29 : decode cX10_toAsk 29 = .ok (.iconst 0, 1) := by decide +kernel
theorem dX10_toAsk_30 : decode cX10_toAsk 30 = .ok (.istore 5, 2) := by decide +kernel
theorem dX10_toAsk_32 : decode cX10_toAsk 32 = .ok (.iload 5, 2) := by decide +kernel
theorem dX10_toAsk_34 : decode cX10_toAsk 34 = .ok (.iconst 3, 1) := by decide +kernel
theorem dX10_toAsk_35 : decode cX10_toAsk 35 = .ok (.if_icmp .ge 34, 3) := by decide +kernel
theorem dX10_toAsk_38 : decode cX10_toAsk 38 = .ok (.aload_n 0, 1) := by decide +kernel
theorem dX10_toAsk_39 : decode cX10_toAsk 39 = .ok (.iload_n 3, 1) := by decide +kernel
theorem dX10_toAsk_40 : decode cX10_toAsk 40 = .ok (.iload 5, 2) := by decide +kernel
theorem dX10_toAsk_42 : decode cX10_toAsk 42 = .ok (.invokevirtual 190, 3) := by decide +kernel
theorem dX10_toAsk_45 : decode cX10_toAsk 45 = .ok (.istore 6, 2) := by decide +kernel
theorem dX10_toAsk_47 : decode cX10_toAsk 47 = .ok (.iload 6, 2) := by decide +kernel
theorem dX10_toAsk_49 : decode cX10_toAsk 49 = .ok (.iload 4, 2) := by decide +kernel
theorem dX10_toAsk_51 : decode cX10_toAsk 51 = .ok (.if_icmp .le 8, 3) := by decide +kernel
theorem dX10_toAsk_54 : decode cX10_toAsk 54 = .ok (.iload 6, 2) := by decide +kernel
theorem dX10_toAsk_56 : decode cX10_toAsk 56 = .ok (.goto 5, 3) := by decide +kernel
theorem dX10_toAsk_59 : decode cX10_toAsk 59 = .ok (.iload 4, 2) := by decide +kernel
theorem dX10_toAsk_61 : decode cX10_toAsk 61 = .ok (.istore 4, 2) := by decide +kernel
theorem dX10_toAsk_63 : decode cX10_toAsk 63 = .ok (.iinc 5 1, 3) := by decide +kernel
theorem dX10_toAsk_66 : decode cX10_toAsk 66 = .ok (.goto (-34), 3) := by decide +kernel
theorem dX10_toAsk_69 : decode cX10_toAsk 69 = .ok (.iload_n 1, 1) := by decide +kernel
theorem dX10_toAsk_70 : decode cX10_toAsk 70 = .ok (.bipush (-9), 2) := by decide +kernel
theorem dX10_toAsk_72 : decode cX10_toAsk 72 = .ok (.if_icmp .eq 9, 3) := by decide +kernel
theorem dX10_toAsk_75 : decode cX10_toAsk 75 = .ok (.iload 4, 2) := by decide +kernel
theorem dX10_toAsk_77 : decode cX10_toAsk 77 = .ok (.iload_n 2, 1) := by decide +kernel
theorem dX10_toAsk_78 : decode cX10_toAsk 78 = .ok (.if_icmp .ge 8, 3) := by decide +kernel
theorem dX10_toAsk_81 : decode cX10_toAsk 81 = .ok (.iload_n 3, 1) := by decide +kernel
theorem dX10_toAsk_82 : decode cX10_toAsk 82 = .ok (.istore_n 1, 1) := by decide +kernel
theorem dX10_toAsk_83 : decode cX10_toAsk 83 = .ok (.iload 4, 2) := by decide +kernel
theorem dX10_toAsk_85 : decode cX10_toAsk 85 = .ok (.istore_n 2, 1) := by decide +kernel
theorem dX10_toAsk_86 : decode cX10_toAsk 86 = .ok (.iinc 3 1, 3) := by decide +kernel
theorem dX10_toAsk_89 : decode cX10_toAsk 89 = .ok (.goto (-77), 3) := by decide +kernel
theorem dX10_toAsk_92 : decode cX10_toAsk 92 = .ok (.iload_n 1, 1) := by decide +kernel
theorem dX10_toAsk_93 : decode cX10_toAsk 93 = .ok (.ireturn, 1) := by decide +kernel
set_option maxRecDepth 20000 in
theorem ggX10_dumb_X10_noSimple : GoodIn wsX10_dumb wsX10_noSimple := goodIn_r _ [6, 7, 8, 9, 10, 11, 12, 5, 13, 55, 56, 57, 58, 59, 60, 61, 62, 63, 64, 65, 66, 67, 68, 69, 70, 71, 72, 73, 74, 75, 76, 77, 78, 79, 80, 81, 82, 83, 84, 85] (by decide +kernel) (by decide +kernel)
set_option maxRecDepth 20000 in
theorem gX10_dumb_X10_noSimple : GoodIn wsX10_dumb (wsV RX10 193 RX10 yX10_noSimple wsX10_noSimple) := goodIn_app (goodIn_of _ (by decide +kernel)) ggX10_dumb_X10_noSimple
set_option maxRecDepth 20000 in
theorem ggX10_dumb_X10_partMany : GoodIn wsX10_dumb wsX10_partMany := goodIn_r _ [17, 18, 19, 20, 21, 22, 5, 23, 8, 24, 25, 26, 27, 28, 29, 30, 31, 32, 33, 34, 35, 36, 37, 38, 39, 40, 41, 42, 43, 44, 11, 12, 13, 45, 46, 47, 48, 49, 50, 51, 52, 53, 54, 55, 56, 57, 58, 59, 60, 61, 62, 63, 64, 65, 66, 67, 68, 69, 70, 71, 72, 73, 74, 75, 76, 77, 78, 79, 80, 81, 82, 83, 84, 85] (by decide +kernel) (by decide +kernel)
set_option maxRecDepth 20000 in
theorem gX10_dumb_X10_partMany : GoodIn wsX10_dumb (wsV RX10 190 RX10 yX10_partMany wsX10_partMany) := goodIn_app (goodIn_of _ (by decide +kernel)) ggX10_dumb_X10_partMany
theorem dX10_dumb_0 : decode cX10_dumb 0 = .ok (.aload_n 0, 1) := by decide +kernel
theorem dX10_dumb_1 : decode cX10_dumb 1 = .ok (.iconst 0, 1) := by decide +kernel
theorem dX10_dumb_2 : decode cX10_dumb 2 = .ok (.putfield 66, 3) := by decide +kernel
theorem dX10_dumb_5 : decode cX10_dumb 5 = .ok (.iconst 0, 1) := by decide +kernel
theorem dX10_dumb_6 : decode cX10_dumb 6 = .ok (.istore_n 1, 1) := by decide +kernel
theorem dX10_dumb_7 : decode cX10_dumb 7 = .ok (.iconst 0, 1) := by decide +kernel
theorem dX10_dumb_8 : decode cX10_dumb 8 = .ok (.istore_n 2, 1) := by decide +kernel
theorem dX10_dumb_9 : decode cX10_dumb 9 = .ok (.iload_n 2, 1) := by decide +kernel
theorem dX10_dumb_10 : decode cX10_dumb 10 = .ok (.bipush 19, 2) := by decide +kernel
