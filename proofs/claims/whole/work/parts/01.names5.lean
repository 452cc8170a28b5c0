theorem dX10_dumb_12 : decode cX10_dumb 12 = .ok (.if_icmp .ge 36, 3) := by decide +kernel
theorem dX10_dumb_15 : decode cX10_dumb 15 = .ok (.iload_n 1, 1) := by decide +kernel
theorem dX10_dumb_16 : decode cX10_dumb 16 = .ok (.aload_n 0, 1) := by decide +kernel
theorem dX10_dumb_17 : decode cX10_dumb 17 = .ok (.iload_n 2, 1) := by decide +kernel
theorem dX10_dumb_18 : decode cX10_dumb 18 = .ok (.invokevirtual 193, 3) := by decide +kernel
theorem dX10_dumb_21 : decode cX10_dumb 21 = .ok (.ifCond .ne 18, 3) := by decide +kernel
theorem dX10_dumb_24 : decode cX10_dumb 24 = .ok (.aload_n 0, 1) := by decide +kernel
theorem dX10_dumb_25 : decode cX10_dumb 25 = .ok (.iload_n 2, 1) := by decide +kernel
theorem dX10_dumb_26 : decode cX10_dumb 26 = .ok (.iconst 2, 1) := by decide +kernel
theorem dX10_dumb_27 : decode cX10_dumb 27 = .ok (.invokevirtual 190, 3) := by decide +kernel
theorem dX10_dumb_30 : decode cX10_dumb 30 = .ok (.ifCond .le 9, 3) := by decide +kernel
theorem dX10_dumb_33 : decode cX10_dumb 33 = .ok (.iconst 1, 1) := by decide +kernel
theorem dX10_dumb_34 : decode cX10_dumb 34 = .ok (.iload_n 2, 1) := by decide +kernel
theorem dX10_dumb_35 : decode cX10_dumb 35 = .ok (.ishl, 1) := by decide +kernel
theorem dX10_dumb_36 : decode cX10_dumb 36 = .ok (.goto 4, 3) := by decide +kernel
theorem dX10_dumb_39 : decode cX10_dumb 39 = .ok (.iconst 0, 1) := by decide +kernel
theorem dX10_dumb_40 : decode cX10_dumb 40 = .ok (.ior, 1) := by decide +kernel
theorem dX10_dumb_41 : decode cX10_dumb 41 = .ok (.istore_n 1, 1) := by decide +kernel
theorem dX10_dumb_42 : decode cX10_dumb 42 = .ok (.iinc 2 1, 3) := by decide +kernel
theorem dX10_dumb_45 : decode cX10_dumb 45 = .ok (.goto (-36), 3) := by decide +kernel
theorem dX10_dumb_48 : decode cX10_dumb 48 = .ok (.iload_n 1, 1) := by decide +kernel
theorem dX10_dumb_49 : decode cX10_dumb 49 = .ok (.ireturn, 1) := by decide +kernel
set_option maxRecDepth 20000 in
theorem ggX10_isTold_X10_tellsFact : GoodIn wsX10_isTold wsX10_tellsFact := goodIn_r _ [5, 6, 10, 11, 12, 13, 14, 15, 16, 17, 18, 19, 20, 21, 22, 23, 24, 25, 26, 27, 28, 29, 30, 31, 32, 33, 34, 35, 36, 37, 38, 39, 40] (by decide +kernel) (by decide +kernel)
set_option maxRecDepth 20000 in
theorem gX10_isTold_X10_tellsFact : GoodIn wsX10_isTold (wsV RX10 142 RX10 yX10_tellsFact wsX10_tellsFact) := goodIn_app (goodIn_of _ (by decide +kernel)) ggX10_isTold_X10_tellsFact
set_option maxRecDepth 20000 in
theorem ggX10_isTold_X10_daysOf : GoodIn wsX10_isTold wsX10_daysOf := goodIn_r _ [9] (by decide +kernel) (by decide +kernel)
set_option maxRecDepth 20000 in
theorem gX10_isTold_X10_daysOf : GoodIn wsX10_isTold (va_wsS RX10 139 yX10_daysOf wsX10_daysOf) := goodIn_app (goodIn_of _ (by decide +kernel)) ggX10_isTold_X10_daysOf
theorem dX10_isTold_0 : decode cX10_isTold 0 = .ok (.iload_n 2, 1) := by decide +kernel
theorem dX10_isTold_1 : decode cX10_isTold 1 = .ok (.iconst 5, 1) := by decide +kernel
theorem dX10_isTold_2 : decode cX10_isTold 2 = .ok (.if_icmp .ge 20, 3) := by decide +kernel
theorem dX10_isTold_5 : decode cX10_isTold 5 = .ok (.aload_n 0, 1) := by decide +kernel
theorem dX10_isTold_6 : decode cX10_isTold 6 = .ok (.aload_n 1, 1) := by decide +kernel
theorem dX10_isTold_7 : decode cX10_isTold 7 = .ok (.iload_n 2, 1) := by decide +kernel
theorem dX10_isTold_8 : decode cX10_isTold 8 = .ok (.invokevirtual 142, 3) := by decide +kernel
theorem dX10_isTold_11 : decode cX10_isTold 11 = .ok (.bipush (-9), 2) := by decide +kernel
theorem dX10_isTold_13 : decode cX10_isTold 13 = .ok (.if_icmp .eq 7, 3) := by decide +kernel
theorem dX10_isTold_16 : decode cX10_isTold 16 = .ok (.iconst 1, 1) := by decide +kernel
theorem dX10_isTold_17 : decode cX10_isTold 17 = .ok (.goto 4, 3) := by decide +kernel
theorem dX10_isTold_20 : decode cX10_isTold 20 = .ok (.iconst 0, 1) := by decide +kernel
theorem dX10_isTold_21 : decode cX10_isTold 21 = .ok (.ireturn, 1) := by decide +kernel
theorem dX10_isTold_22 : decode cX10_isTold 22 = .ok (.aload_n 1, 1) := by decide +kernel
theorem dX10_isTold_23 : decode cX10_isTold 23 = .ok (.invokestatic 139, 3) := by decide +kernel
theorem dX10_isTold_26 : decode cX10_isTold 26 = .ok (.istore_n 3, 1) := by decide +kernel
theorem dX10_isTold_27 : decode cX10_isTold 27 = .ok (.iload_n 3, 1) := by decide +kernel
theorem dX10_isTold_28 : decode cX10_isTold 28 = .ok (.iload_n 3, 1) := by decide +kernel
theorem dX10_isTold_29 : decode cX10_isTold 29 = .ok (.iconst 1, 1) := by decide +kernel
theorem dX10_isTold_30 : decode cX10_isTold 30 = .ok (.isub, 1) := by decide +kernel
theorem dX10_isTold_31 : decode cX10_isTold 31 = .ok (.iand, 1) := by decide +kernel
theorem dX10_isTold_32 : decode cX10_isTold 32 = .ok (.ifCond .ne 7, 3) := by decide +kernel
theorem dX10_isTold_35 : decode cX10_isTold 35 = .ok (.iconst 1, 1) := by decide +kernel
theorem dX10_isTold_36 : decode cX10_isTold 36 = .ok (.goto 4, 3) := by decide +kernel
theorem dX10_isTold_39 : decode cX10_isTold 39 = .ok (.iconst 0, 1) := by decide +kernel
theorem dX10_isTold_40 : decode cX10_isTold 40 = .ok (.ireturn, 1) := by decide +kernel
theorem dX10_answerAt_0 : decode cX10_answerAt 0 = .ok (.iload_n 0, 1) := by decide +kernel
theorem dX10_answerAt_1 : decode cX10_answerAt 1 = .ok (.iconst 2, 1) := by decide +kernel
theorem dX10_answerAt_2 : decode cX10_answerAt 2 = .ok (.if_icmp .ne 8, 3) := by decide +kernel
theorem dX10_answerAt_5 : decode cX10_answerAt 5 = .ok (.bipush (-9), 2) := by decide +kernel
theorem dX10_answerAt_7 : decode cX10_answerAt 7 = .ok (.goto 4, 3) := by decide +kernel
theorem dX10_answerAt_10 : decode cX10_answerAt 10 = .ok (.iload_n 0, 1) := by decide +kernel
theorem dX10_answerAt_11 : decode cX10_answerAt 11 = .ok (.ireturn, 1) := by decide +kernel
set_option maxRecDepth 20000 in
theorem ggX10_inOne_X10_isTold : GoodIn wsX10_inOne wsX10_isTold := goodIn_r _ [5, 6, 7, 8, 4, 9, 10, 11, 12, 13, 62, 63, 64, 65, 66, 67, 68, 69, 70, 71, 72, 73, 74, 75, 76, 77, 78, 79, 80, 81, 82, 83, 84, 85, 86, 87, 88, 89, 90, 91, 92] (by decide +kernel) (by decide +kernel)
set_option maxRecDepth 20000 in
theorem gX10_inOne_X10_isTold : GoodIn wsX10_inOne (wsV RX10 197 RX10 yX10_isTold wsX10_isTold) := goodIn_app (goodIn_of _ (by decide +kernel)) ggX10_inOne_X10_isTold
set_option maxRecDepth 20000 in
theorem ggX10_inOne_X10_noSimple : GoodIn wsX10_inOne wsX10_noSimple := goodIn_r _ [17, 18, 19, 20, 21, 22, 23, 4, 24, 62, 63, 64, 65, 66, 67, 68, 69, 70, 71, 72, 73, 74, 75, 76, 77, 78, 79, 80, 81, 82, 83, 84, 85, 86, 87, 88, 89, 90, 91, 92] (by decide +kernel) (by decide +kernel)
set_option maxRecDepth 20000 in
theorem gX10_inOne_X10_noSimple : GoodIn wsX10_inOne (wsV RX10 193 RX10 yX10_noSimple wsX10_noSimple) := goodIn_app (goodIn_of _ (by decide +kernel)) ggX10_inOne_X10_noSimple
set_option maxRecDepth 20000 in
theorem ggX10_inOne_X10_doesOne : GoodIn wsX10_inOne wsX10_doesOne := goodIn_r _ [28, 29, 30, 31, 4, 32, 33, 34, 35, 36, 19, 37, 38, 39, 40, 41, 42, 43, 44, 45, 46, 47, 48, 49, 50, 51, 52, 53, 54, 55, 56, 57, 22, 23, 24, 58, 59, 60, 61, 1, 2, 3, 5, 6, 7, 8, 9, 10, 11, 12, 13, 62, 63, 64, 65, 66, 67, 68, 69, 70, 71, 72, 73, 74, 75, 76, 77, 78, 79, 80, 81, 82, 83, 84, 85, 86, 87, 88, 89, 90, 91, 92] (by decide +kernel) (by decide +kernel)
set_option maxRecDepth 20000 in
theorem gX10_inOne_X10_doesOne : GoodIn wsX10_inOne (wsV RX10 201 RX10 yX10_doesOne wsX10_doesOne) := goodIn_app (goodIn_of _ (by decide +kernel)) ggX10_inOne_X10_doesOne
theorem dX10_inOne_0 : decode cX10_inOne 0 = .ok (.aload_n 0, 1) := by decide +kernel
theorem dX10_inOne_1 : decode cX10_inOne 1 = .ok (.aload_n 1, 1) := by decide +kernel
theorem dX10_inOne_2 : decode cX10_inOne 2 = .ok (.iload_n 3, 1) := by decide +kernel
theorem dX10_inOne_3 : decode cX10_inOne 3 = .ok (.invokevirtual 197, 3) := by decide +kernel
theorem dX10_inOne_6 : decode cX10_inOne 6 = .ok (.istore 4, 2) := by decide +kernel
theorem dX10_inOne_8 : decode cX10_inOne 8 = .ok (.iconst 0, 1) := by decide +kernel
theorem dX10_inOne_9 : decode cX10_inOne 9 = .ok (.istore 5, 2) := by decide +kernel
theorem dX10_inOne_11 : decode cX10_inOne 11 = .ok (.iload 5, 2) := by decide +kernel
theorem dX10_inOne_13 : decode cX10_inOne 13 = .ok (.bipush 19, 2) := by decide +kernel
theorem dX10_inOne_15 : decode cX10_inOne 15 = .ok (.if_icmp .ge 42, 3) := by decide +kernel
theorem dX10_inOne_18 : decode cX10_inOne 18 = .ok (.iload 4, 2) := by decide +kernel
theorem dX10_inOne_20 : decode cX10_inOne 20 = .ok (.ifCond .ne 37, 3) := by decide +kernel
theorem dX10_inOne_23 : decode cX10_inOne 23 = .ok (.aload_n 0, 1) := by decide +kernel
theorem dX10_inOne_24 : decode cX10_inOne 24 = .ok (.iload 5, 2) := by decide +kernel
theorem dX10_inOne_26 : decode cX10_inOne 26 = .ok (.invokevirtual 193, 3) := by decide +kernel
theorem dX10_inOne_29 : decode cX10_inOne 29 = .ok (.ifCond .ne 19, 3) := by decide +kernel
theorem dX10_inOne_32 : decode cX10_inOne 32 = .ok (.aload_n 0, 1) := by decide +kernel
theorem dX10_inOne_33 : decode cX10_inOne 33 = .ok (.aload_n 1, 1) := by decide +kernel
theorem dX10_inOne_34 : decode cX10_inOne 34 = .ok (.iload 5, 2) := by decide +kernel
theorem dX10_inOne_36 : decode cX10_inOne 36 = .ok (.iload_n 2, 1) := by decide +kernel
theorem dX10_inOne_37 : decode cX10_inOne 37 = .ok (.iload_n 3, 1) := by decide +kernel
theorem dX10_inOne_38 : decode cX10_inOne 38 = .ok (.invokevirtual 201, 3) := by decide +kernel
theorem dX10_inOne_41 : decode cX10_inOne 41 = .ok (.ifCond .eq 7, 3) := by decide +kernel
theorem dX10_inOne_44 : decode cX10_inOne 44 = .ok (.iconst 1, 1) := by decide +kernel
theorem dX10_inOne_45 : decode cX10_inOne 45 = .ok (.goto 4, 3) := by decide +kernel
theorem dX10_inOne_48 : decode cX10_inOne 48 = .ok (.iconst 0, 1) := by decide +kernel
theorem dX10_inOne_49 : decode cX10_inOne 49 = .ok (.istore 4, 2) := by decide +kernel
theorem dX10_inOne_51 : decode cX10_inOne 51 = .ok (.iinc 5 1, 3) := by decide +kernel
theorem dX10_inOne_54 : decode cX10_inOne 54 = .ok (.goto (-43), 3) := by decide +kernel
theorem dX10_inOne_57 : decode cX10_inOne 57 = .ok (.iload 4, 2) := by decide +kernel
theorem dX10_inOne_59 : decode cX10_inOne 59 = .ok (.ireturn, 1) := by decide +kernel
set_option maxRecDepth 20000 in
theorem ggX10_doesOne_X10_answerAt : GoodIn wsX10_doesOne wsX10_answerAt := goodIn_r _ [5] (by decide +kernel) (by decide +kernel)
set_option maxRecDepth 20000 in
theorem gX10_doesOne_X10_answerAt : GoodIn wsX10_doesOne (va_wsS RX10 205 yX10_answerAt wsX10_answerAt) := goodIn_app (goodIn_of _ (by decide +kernel)) ggX10_doesOne_X10_answerAt
set_option maxRecDepth 20000 in
theorem ggX10_doesOne_X10_part : GoodIn wsX10_doesOne wsX10_part := goodIn_r _ [9, 10, 11, 12, 13, 14, 4, 15, 16, 17, 18, 19, 20, 21, 22, 23, 24, 25, 26, 27, 28, 29, 30, 31, 32, 33, 34, 35, 36, 37, 38, 51, 52, 53, 54, 55, 56, 57, 58, 59, 60, 61, 62, 63, 64, 65, 66, 67, 68, 69, 70, 71, 72, 73, 74, 75, 76, 77, 78, 79, 80, 81] (by decide +kernel) (by decide +kernel)
set_option maxRecDepth 20000 in
theorem gX10_doesOne_X10_part : GoodIn wsX10_doesOne (wsV RX10 175 RX10 yX10_part wsX10_part) := goodIn_app (goodIn_of _ (by decide +kernel)) ggX10_doesOne_X10_part
set_option maxRecDepth 20000 in
theorem ggX10_doesOne_X10_isTold : GoodIn wsX10_doesOne wsX10_isTold := goodIn_r _ [42, 43, 44, 45, 4, 46, 47, 48, 49, 50, 51, 52, 53, 54, 55, 56, 57, 58, 59, 60, 61, 62, 63, 64, 65, 66, 67, 68, 69, 70, 71, 72, 73, 74, 75, 76, 77, 78, 79, 80, 81] (by decide +kernel) (by decide +kernel)
set_option maxRecDepth 20000 in
theorem gX10_doesOne_X10_isTold : GoodIn wsX10_doesOne (wsV RX10 197 RX10 yX10_isTold wsX10_isTold) := goodIn_app (goodIn_of _ (by decide +kernel)) ggX10_doesOne_X10_isTold
theorem dX10_doesOne_0 : decode cX10_doesOne 0 = .ok (.iconst 1, 1) := by decide +kernel
theorem dX10_doesOne_1 : decode cX10_doesOne 1 = .ok (.istore 5, 2) := by decide +kernel
theorem dX10_doesOne_3 : decode cX10_doesOne 3 = .ok (.iconst 0, 1) := by decide +kernel
theorem dX10_doesOne_4 : decode cX10_doesOne 4 = .ok (.istore 6, 2) := by decide +kernel
theorem dX10_doesOne_6 : decode cX10_doesOne 6 = .ok (.iload 6, 2) := by decide +kernel
theorem dX10_doesOne_8 : decode cX10_doesOne 8 = .ok (.iconst 3, 1) := by decide +kernel
theorem dX10_doesOne_9 : decode cX10_doesOne 9 = .ok (.if_icmp .ge 42, 3) := by decide +kernel
theorem dX10_doesOne_12 : decode cX10_doesOne 12 = .ok (.iload 5, 2) := by decide +kernel
theorem dX10_doesOne_14 : decode cX10_doesOne 14 = .ok (.ifCond .eq 37, 3) := by decide +kernel
theorem dX10_doesOne_17 : decode cX10_doesOne 17 = .ok (.aload_n 0, 1) := by decide +kernel
theorem dX10_doesOne_18 : decode cX10_doesOne 18 = .ok (.aload_n 1, 1) := by decide +kernel
theorem dX10_doesOne_19 : decode cX10_doesOne 19 = .ok (.iload_n 2, 1) := by decide +kernel
theorem dX10_doesOne_20 : decode cX10_doesOne 20 = .ok (.iload_n 3, 1) := by decide +kernel
theorem dX10_doesOne_21 : decode cX10_doesOne 21 = .ok (.iload 6, 2) := by decide +kernel
theorem dX10_doesOne_23 : decode cX10_doesOne 23 = .ok (.invokestatic 205, 3) := by decide +kernel
theorem dX10_doesOne_26 : decode cX10_doesOne 26 = .ok (.aload_n 0, 1) := by decide +kernel
theorem dX10_doesOne_27 : decode cX10_doesOne 27 = .ok (.getfield 60, 3) := by decide +kernel
theorem dX10_doesOne_30 : decode cX10_doesOne 30 = .ok (.invokevirtual 175, 3) := by decide +kernel
theorem dX10_doesOne_33 : decode cX10_doesOne 33 = .ok (.aload_n 0, 1) := by decide +kernel
theorem dX10_doesOne_34 : decode cX10_doesOne 34 = .ok (.aload_n 0, 1) := by decide +kernel
theorem dX10_doesOne_35 : decode cX10_doesOne 35 = .ok (.getfield 60, 3) := by decide +kernel
theorem dX10_doesOne_38 : decode cX10_doesOne 38 = .ok (.iload 4, 2) := by decide +kernel
theorem dX10_doesOne_40 : decode cX10_doesOne 40 = .ok (.invokevirtual 197, 3) := by decide +kernel
theorem dX10_doesOne_43 : decode cX10_doesOne 43 = .ok (.istore 5, 2) := by decide +kernel
theorem dX10_doesOne_45 : decode cX10_doesOne 45 = .ok (.iinc 6 1, 3) := by decide +kernel
theorem dX10_doesOne_48 : decode cX10_doesOne 48 = .ok (.goto (-42), 3) := by decide +kernel
theorem dX10_doesOne_51 : decode cX10_doesOne 51 = .ok (.iload 5, 2) := by decide +kernel
theorem dX10_doesOne_53 : decode cX10_doesOne 53 = .ok (.ireturn, 1) := by decide +kernel
set_option maxRecDepth 20000 in
theorem ggX10_inTwo_X10_isTold : GoodIn wsX10_inTwo wsX10_isTold := goodIn_r _ [5, 6, 7, 8, 4, 9, 10, 11, 12, 13, 71, 72, 73, 74, 75, 76, 77, 78, 79, 80, 81, 82, 83, 84, 85, 86, 87, 88, 89, 90, 91, 92, 93, 94, 95, 96, 97, 98, 99, 100, 101] (by decide +kernel) (by decide +kernel)
set_option maxRecDepth 20000 in
theorem gX10_inTwo_X10_isTold : GoodIn wsX10_inTwo (wsV RX10 197 RX10 yX10_isTold wsX10_isTold) := goodIn_app (goodIn_of _ (by decide +kernel)) ggX10_inTwo_X10_isTold
set_option maxRecDepth 20000 in
theorem ggX10_inTwo_X10_noSimple : GoodIn wsX10_inTwo wsX10_noSimple := goodIn_r _ [17, 18, 19, 20, 21, 22, 23, 4, 24, 71, 72, 73, 74, 75, 76, 77, 78, 79, 80, 81, 82, 83, 84, 85, 86, 87, 88, 89, 90, 91, 92, 93, 94, 95, 96, 97, 98, 99, 100, 101] (by decide +kernel) (by decide +kernel)
set_option maxRecDepth 20000 in
theorem gX10_inTwo_X10_noSimple : GoodIn wsX10_inTwo (wsV RX10 193 RX10 yX10_noSimple wsX10_noSimple) := goodIn_app (goodIn_of _ (by decide +kernel)) ggX10_inTwo_X10_noSimple
set_option maxRecDepth 20000 in
theorem ggX10_inTwo_X10_doesTwo : GoodIn wsX10_inTwo wsX10_doesTwo := goodIn_r _ [28, 29, 30, 31, 4, 32, 33, 34, 35, 36, 19, 37, 38, 39, 40, 41, 42, 43, 44, 45, 46, 47, 48, 49, 50, 51, 52, 53, 54, 55, 56, 57, 22, 23, 24, 58, 59, 60, 61, 62, 63, 64, 65, 1, 2, 3, 5, 6, 7, 8, 9, 10, 11, 12, 13, 14, 15, 16, 17, 18, 20, 21, 66, 67, 68, 69, 70, 71, 72, 73, 74, 75, 76, 77, 78, 79, 80, 81, 82, 83, 84, 85, 86, 87, 88, 89, 90, 91, 92, 93, 94, 95, 96, 97, 98, 99, 100, 101] (by decide +kernel) (by decide +kernel)
set_option maxRecDepth 20000 in
theorem gX10_inTwo_X10_doesTwo : GoodIn wsX10_inTwo (wsV RX10 208 RX10 yX10_doesTwo wsX10_doesTwo) := goodIn_app (goodIn_of _ (by decide +kernel)) ggX10_inTwo_X10_doesTwo
theorem dX10_inTwo_0 : decode cX10_inTwo 0 = .ok (.aload_n 0, 1) := by decide +kernel
theorem dX10_inTwo_1 : decode cX10_inTwo 1 = .ok (.aload_n 1, 1) := by decide +kernel
theorem dX10_inTwo_2 : decode cX10_inTwo 2 = .ok (.iload_n 3, 1) := by decide +kernel
theorem dX10_inTwo_3 : decode cX10_inTwo 3 = .ok (.invokevirtual 197, 3) := by decide +kernel
theorem dX10_inTwo_6 : decode cX10_inTwo 6 = .ok (.istore 4, 2) := by decide +kernel
theorem dX10_inTwo_8 : decode cX10_inTwo 8 = .ok (.iconst 0, 1) := by decide +kernel
theorem dX10_inTwo_9 : decode cX10_inTwo 9 = .ok (.istore 5, 2) := by decide +kernel
theorem dX10_inTwo_11 : decode cX10_inTwo 11 = .ok (.iload 5, 2) := by decide +kernel
theorem dX10_inTwo_13 : decode cX10_inTwo 13 = .ok (.bipush 19, 2) := by decide +kernel
theorem dX10_inTwo_15 : decode cX10_inTwo 15 = .ok (.if_icmp .ge 42, 3) := by decide +kernel
theorem dX10_inTwo_18 : decode cX10_inTwo 18 = .ok (.iload 4, 2) := by decide +kernel
theorem dX10_inTwo_20 : decode cX10_inTwo 20 = .ok (.ifCond .ne 37, 3) := by decide +kernel
theorem dX10_inTwo_23 : decode cX10_inTwo 23 = .ok (.aload_n 0, 1) := by decide +kernel
theorem dX10_inTwo_24 : decode cX10_inTwo 24 = .ok (.iload 5, 2) := by decide +kernel
theorem dX10_inTwo_26 : decode cX10_inTwo 26 = .ok (.invokevirtual 193, 3) := by decide +kernel
theorem dX10_inTwo_29 : decode cX10_inTwo 29 = .ok (.ifCond .ne 19, 3) := by decide +kernel
theorem dX10_inTwo_32 : decode cX10_inTwo 32 = .ok (.aload_n 0, 1) := by decide +kernel
theorem dX10_inTwo_33 : decode cX10_inTwo 33 = .ok (.aload_n 1, 1) := by decide +kernel
theorem dX10_inTwo_34 : decode cX10_inTwo 34 = .ok (.iload 5, 2) := by decide +kernel
theorem dX10_inTwo_36 : decode cX10_inTwo 36 = .ok (.iload_n 2, 1) := by decide +kernel
theorem dX10_inTwo_37 : decode cX10_inTwo 37 = .ok (.iload_n 3, 1) := by decide +kernel
theorem dX10_inTwo_38 : decode cX10_inTwo 38 = .ok (.invokevirtual 208, 3) := by decide +kernel
theorem dX10_inTwo_41 : decode cX10_inTwo 41 = .ok (.ifCond .eq 7, 3) := by decide +kernel
theorem dX10_inTwo_44 : decode cX10_inTwo 44 = .ok (.iconst 1, 1) := by decide +kernel
theorem dX10_inTwo_45 : decode cX10_inTwo 45 = .ok (.goto 4, 3) := by decide +kernel
theorem dX10_inTwo_48 : decode cX10_inTwo 48 = .ok (.iconst 0, 1) := by decide +kernel
theorem dX10_inTwo_49 : decode cX10_inTwo 49 = .ok (.istore 4, 2) := by decide +kernel
theorem dX10_inTwo_51 : decode cX10_inTwo 51 = .ok (.iinc 5 1, 3) := by decide +kernel
theorem dX10_inTwo_54 : decode cX10_inTwo 54 = .ok (.goto (-43), 3) := by decide +kernel
theorem dX10_inTwo_57 : decode cX10_inTwo 57 = .ok (.iload 4, 2) := by decide +kernel
theorem dX10_inTwo_59 : decode cX10_inTwo 59 = .ok (.ireturn, 1) := by decide +kernel
set_option maxRecDepth 20000 in
theorem ggX10_doesTwo_X10_answerAt : GoodIn wsX10_doesTwo wsX10_answerAt := goodIn_r _ [5] (by decide +kernel) (by decide +kernel)
set_option maxRecDepth 20000 in
theorem gX10_doesTwo_X10_answerAt : GoodIn wsX10_doesTwo (va_wsS RX10 205 yX10_answerAt wsX10_answerAt) := goodIn_app (goodIn_of _ (by decide +kernel)) ggX10_doesTwo_X10_answerAt
set_option maxRecDepth 20000 in
theorem ggX10_doesTwo_X10_part : GoodIn wsX10_doesTwo wsX10_part := goodIn_r _ [9, 10, 11, 12, 13, 14, 4, 15, 16, 17, 18, 19, 20, 21, 22, 23, 24, 25, 26, 27, 28, 29, 30, 31, 32, 33, 34, 35, 36, 37, 38, 67, 68, 69, 70, 71, 72, 73, 74, 75, 76, 77, 78, 79, 80, 81, 82, 83, 84, 85, 86, 87, 88, 89, 90, 91, 92, 93, 94, 95, 96, 97] (by decide +kernel) (by decide +kernel)
set_option maxRecDepth 20000 in
theorem gX10_doesTwo_X10_part : GoodIn wsX10_doesTwo (wsV RX10 175 RX10 yX10_part wsX10_part) := goodIn_app (goodIn_of _ (by decide +kernel)) ggX10_doesTwo_X10_part
set_option maxRecDepth 20000 in
theorem ggX10_doesTwo_X10_inOne : GoodIn wsX10_doesTwo wsX10_inOne := goodIn_r _ [42, 43, 44, 45, 4, 46, 47, 48, 49, 50, 51, 52, 53, 54, 55, 56, 57, 58, 59, 10, 60, 61, 32, 33, 34, 62, 63, 64, 65, 66, 2, 3, 5, 6, 7, 8, 9, 11, 12, 13, 14, 15, 16, 17, 18, 19, 20, 21, 22, 23, 24, 25, 26, 27, 28, 29, 30, 31, 35, 36, 37, 38, 67, 68, 69, 70, 71, 72, 73, 74, 75, 76, 77, 78, 79, 80, 81, 82, 83, 84, 85, 86, 87, 88, 89, 90, 91, 92, 93, 94, 95, 96, 97] (by decide +kernel) (by decide +kernel)
set_option maxRecDepth 20000 in
theorem gX10_doesTwo_X10_inOne : GoodIn wsX10_doesTwo (wsV RX10 211 RX10 yX10_inOne wsX10_inOne) := goodIn_app (goodIn_of _ (by decide +kernel)) ggX10_doesTwo_X10_inOne
theorem dX10_doesTwo_0 : decode cX10_doesTwo 0 = .ok (.iconst 1, 1) := by decide +kernel
theorem dX10_doesTwo_1 : decode cX10_doesTwo 1 = .ok (.istore 5, 2) := by decide +kernel
theorem dX10_doesTwo_3 : decode cX10_doesTwo 3 = .ok (.iconst 0, 1) := by decide +kernel
theorem dX10_doesTwo_4 : decode cX10_doesTwo 4 = .ok (.istore 6, 2) := by decide +kernel
theorem dX10_doesTwo_6 : decode cX10_doesTwo 6 = .ok (.iload 6, 2) := by decide +kernel
theorem dX10_doesTwo_8 : decode cX10_doesTwo 8 = .ok (.iconst 3, 1) := by decide +kernel
theorem dX10_doesTwo_9 : decode cX10_doesTwo 9 = .ok (.if_icmp .ge 45, 3) := by decide +kernel
theorem dX10_doesTwo_12 : decode cX10_doesTwo 12 = .ok (.iload 5, 2) := by decide +kernel
theorem dX10_doesTwo_14 : decode cX10_doesTwo 14 = .ok (.ifCond .eq 40, 3) := by decide +kernel
theorem dX10_doesTwo_17 : decode cX10_doesTwo 17 = .ok (.aload_n 0, 1) := by decide +kernel
theorem dX10_doesTwo_18 : decode cX10_doesTwo 18 = .ok (.aload_n 1, 1) := by decide +kernel
theorem dX10_doesTwo_19 : decode cX10_doesTwo 19 = .ok (.iload_n 2, 1) := by decide +kernel
theorem dX10_doesTwo_20 : decode cX10_doesTwo 20 = .ok (.iload_n 3, 1) := by decide +kernel
theorem dX10_doesTwo_21 : decode cX10_doesTwo 21 = .ok (.iload 6, 2) := by decide +kernel
theorem dX10_doesTwo_23 : decode cX10_doesTwo 23 = .ok (.invokestatic 205, 3) := by decide +kernel
theorem dX10_doesTwo_26 : decode cX10_doesTwo 26 = .ok (.aload_n 0, 1) := by decide +kernel
theorem dX10_doesTwo_27 : decode cX10_doesTwo 27 = .ok (.getfield 57, 3) := by decide +kernel
theorem dX10_doesTwo_30 : decode cX10_doesTwo 30 = .ok (.invokevirtual 175, 3) := by decide +kernel
theorem dX10_doesTwo_33 : decode cX10_doesTwo 33 = .ok (.aload_n 0, 1) := by decide +kernel
theorem dX10_doesTwo_34 : decode cX10_doesTwo 34 = .ok (.aload_n 0, 1) := by decide +kernel
theorem dX10_doesTwo_35 : decode cX10_doesTwo 35 = .ok (.getfield 57, 3) := by decide +kernel
theorem dX10_doesTwo_38 : decode cX10_doesTwo 38 = .ok (.iload_n 3, 1) := by decide +kernel
theorem dX10_doesTwo_39 : decode cX10_doesTwo 39 = .ok (.iconst 1, 1) := by decide +kernel
theorem dX10_doesTwo_40 : decode cX10_doesTwo 40 = .ok (.iadd, 1) := by decide +kernel
theorem dX10_doesTwo_41 : decode cX10_doesTwo 41 = .ok (.iload 4, 2) := by decide +kernel
theorem dX10_doesTwo_43 : decode cX10_doesTwo 43 = .ok (.invokevirtual 211, 3) := by decide +kernel
theorem dX10_doesTwo_46 : decode cX10_doesTwo 46 = .ok (.istore 5, 2) := by decide +kernel
theorem dX10_doesTwo_48 : decode cX10_doesTwo 48 = .ok (.iinc 6 1, 3) := by decide +kernel
theorem dX10_doesTwo_51 : decode cX10_doesTwo 51 = .ok (.goto (-45), 3) := by decide +kernel
theorem dX10_doesTwo_54 : decode cX10_doesTwo 54 = .ok (.iload 5, 2) := by decide +kernel
theorem dX10_doesTwo_56 : decode cX10_doesTwo 56 = .ok (.ireturn, 1) := by decide +kernel
set_option maxRecDepth 20000 in
theorem ggX10_doesThree_X10_answerAt : GoodIn wsX10_doesThree wsX10_answerAt := goodIn_r _ [5] (by decide +kernel) (by decide +kernel)
set_option maxRecDepth 20000 in
theorem gX10_doesThree_X10_answerAt : GoodIn wsX10_doesThree (va_wsS RX10 205 yX10_answerAt wsX10_answerAt) := goodIn_app (goodIn_of _ (by decide +kernel)) ggX10_doesThree_X10_answerAt
set_option maxRecDepth 20000 in
theorem ggX10_doesThree_X10_part : GoodIn wsX10_doesThree wsX10_part := goodIn_r _ [9, 10, 11, 12, 13, 14, 4, 15, 16, 17, 18, 19, 20, 21, 22, 23, 24, 25, 26, 27, 28, 29, 30, 31, 32, 33, 34, 35, 36, 37, 38, 76, 77, 78, 79, 80, 81, 82, 83, 84, 85, 86, 87, 88, 89, 90, 91, 92, 93, 94, 95, 96, 97, 98, 99, 100, 101, 102, 103, 104, 105, 106] (by decide +kernel) (by decide +kernel)
set_option maxRecDepth 20000 in
theorem gX10_doesThree_X10_part : GoodIn wsX10_doesThree (wsV RX10 175 RX10 yX10_part wsX10_part) := goodIn_app (goodIn_of _ (by decide +kernel)) ggX10_doesThree_X10_part
set_option maxRecDepth 20000 in
theorem ggX10_doesThree_X10_inTwo : GoodIn wsX10_doesThree wsX10_inTwo := goodIn_r _ [42, 43, 44, 45, 4, 46, 47, 48, 49, 50, 51, 52, 53, 54, 55, 56, 57, 58, 59, 10, 60, 61, 32, 33, 34, 62, 63, 64, 65, 66, 2, 3, 5, 6, 7, 8, 9, 11, 12, 13, 14, 15, 16, 17, 18, 19, 20, 21, 22, 23, 24, 25, 26, 27, 28, 29, 30, 31, 35, 36, 37, 38, 67, 68, 69, 70, 71, 72, 73, 74, 75, 76, 77, 78, 79, 80, 81, 82, 83, 84, 85, 86, 87, 88, 89, 90, 91, 92, 93, 94, 95, 96, 97, 98, 99, 100, 101, 102, 103, 104, 105, 106] (by decide +kernel) (by decide +kernel)
set_option maxRecDepth 20000 in
theorem gX10_doesThree_X10_inTwo : GoodIn wsX10_doesThree (wsV RX10 215 RX10 yX10_inTwo wsX10_inTwo) := goodIn_app (goodIn_of _ (by decide +kernel)) ggX10_doesThree_X10_inTwo
theorem dX10_doesThree_0 : decode cX10_doesThree 0 = .ok (.iconst 1, 1) := by decide +kernel
theorem dX10_doesThree_1 : decode cX10_doesThree 1 = .ok (.istore 5, 2) := by decide +kernel
theorem dX10_doesThree_3 : decode cX10_doesThree 3 = .ok (.iconst 0, 1) := by decide +kernel
theorem dX10_doesThree_4 : decode cX10_doesThree 4 = .ok (.istore 6, 2) := by decide +kernel
theorem dX10_doesThree_6 : decode cX10_doesThree 6 = .ok (.iload 6, 2) := by decide +kernel
theorem dX10_doesThree_8 : decode cX10_doesThree 8 = .ok (.iconst 3, 1) := by decide +kernel
theorem dX10_doesThree_9 : decode cX10_doesThree 9 = .ok (.if_icmp .ge 45, 3) := by decide +kernel
theorem dX10_doesThree_12 : decode cX10_doesThree 12 = .ok (.iload 5, 2) := by decide +kernel
theorem dX10_doesThree_14 : decode cX10_doesThree 14 = .ok (.ifCond .eq 40, 3) := by decide +kernel
theorem dX10_doesThree_17 : decode cX10_doesThree 17 = .ok (.aload_n 0, 1) := by decide +kernel
theorem dX10_doesThree_18 : decode cX10_doesThree 18 = .ok (.aload_n 1, 1) := by decide +kernel
theorem dX10_doesThree_19 : decode cX10_doesThree 19 = .ok (.iload_n 2, 1) := by decide +kernel
theorem dX10_doesThree_20 : decode cX10_doesThree 20 = .ok (.iload_n 3, 1) := by decide +kernel
theorem dX10_doesThree_21 : decode cX10_doesThree 21 = .ok (.iload 6, 2) := by decide +kernel
theorem dX10_doesThree_23 : decode cX10_doesThree 23 = .ok (.invokestatic 205, 3) := by decide +kernel
theorem dX10_doesThree_26 : decode cX10_doesThree 26 = .ok (.aload_n 0, 1) := by decide +kernel
theorem dX10_doesThree_27 : decode cX10_doesThree 27 = .ok (.getfield 54, 3) := by decide +kernel
theorem dX10_doesThree_30 : decode cX10_doesThree 30 = .ok (.invokevirtual 175, 3) := by decide +kernel
theorem dX10_doesThree_33 : decode cX10_doesThree 33 = .ok (.aload_n 0, 1) := by decide +kernel
theorem dX10_doesThree_34 : decode cX10_doesThree 34 = .ok (.aload_n 0, 1) := by decide +kernel
theorem dX10_doesThree_35 : decode cX10_doesThree 35 = .ok (.getfield 54, 3) := by decide +kernel
theorem dX10_doesThree_38 : decode cX10_doesThree 38 = .ok (.iload_n 3, 1) := by decide +kernel
theorem dX10_doesThree_39 : decode cX10_doesThree 39 = .ok (.iconst 1, 1) := by decide +kernel
theorem dX10_doesThree_40 : decode cX10_doesThree 40 = .ok (.iadd, 1) := by decide +kernel
theorem dX10_doesThree_41 : decode cX10_doesThree 41 = .ok (.iload 4, 2) := by decide +kernel
theorem dX10_doesThree_43 : decode cX10_doesThree 43 = .ok (.invokevirtual 215, 3) := by decide +kernel
theorem dX10_doesThree_46 : decode cX10_doesThree 46 = .ok (.istore 5, 2) := by decide +kernel
theorem dX10_doesThree_48 : decode cX10_doesThree 48 = .ok (.iinc 6 1, 3) := by decide +kernel
theorem dX10_doesThree_51 : decode cX10_doesThree 51 = .ok (.goto (-45), 3) := by decide +kernel
theorem dX10_doesThree_54 : decode cX10_doesThree 54 = .ok (.iload 5, 2) := by decide +kernel
theorem dX10_doesThree_56 : decode cX10_doesThree 56 = .ok (.ireturn, 1) := by decide +kernel
set_option maxRecDepth 20000 in
theorem ggX10_tells_X10_in : GoodIn wsX10_tells wsX10_in := goodIn_r _ [8] (by decide +kernel) (by decide +kernel)
set_option maxRecDepth 20000 in
theorem gX10_tells_X10_in : GoodIn wsX10_tells (va_wsS RX10 72 yX10_in wsX10_in) := goodIn_app (goodIn_of _ (by decide +kernel)) ggX10_tells_X10_in
set_option maxRecDepth 20000 in
theorem ggX10_tells_X10_noSimple : GoodIn wsX10_tells wsX10_noSimple := goodIn_r _ [12, 13, 3, 14, 15, 5, 6, 7, 8, 83, 84, 85, 86, 87, 88, 89, 90, 91, 92, 93, 94, 95, 96, 97, 98, 99, 100, 101, 102, 103, 104, 105, 106, 107, 108, 109, 110, 111, 112, 113] (by decide +kernel) (by decide +kernel)
set_option maxRecDepth 20000 in
theorem gX10_tells_X10_noSimple : GoodIn wsX10_tells (wsV RX10 193 RX10 yX10_noSimple wsX10_noSimple) := goodIn_app (goodIn_of _ (by decide +kernel)) ggX10_tells_X10_noSimple
set_option maxRecDepth 20000 in
theorem ggX10_tells_X10_doesOne : GoodIn wsX10_tells wsX10_doesOne := goodIn_r _ [19, 20, 21, 22, 7, 23, 24, 25, 26, 27, 3, 28, 29, 30, 31, 32, 33, 34, 35, 36, 37, 38, 39, 40, 41, 42, 43, 44, 45, 46, 47, 48, 5, 6, 8, 49, 50, 51, 52, 53, 54, 55, 56, 57, 58, 59, 60, 61, 62, 63, 64, 83, 84, 85, 86, 87, 88, 89, 90, 91, 92, 93, 94, 95, 96, 97, 98, 99, 100, 101, 102, 103, 104, 105, 106, 107, 108, 109, 110, 111, 112, 113] (by decide +kernel) (by decide +kernel)
set_option maxRecDepth 20000 in
theorem gX10_tells_X10_doesOne : GoodIn wsX10_tells (wsV RX10 201 RX10 yX10_doesOne wsX10_doesOne) := goodIn_app (goodIn_of _ (by decide +kernel)) ggX10_tells_X10_doesOne
set_option maxRecDepth 20000 in
theorem ggX10_tells_X10_doesTwo : GoodIn wsX10_tells wsX10_doesTwo := goodIn_r _ [68, 69, 21, 22, 7, 23, 24, 25, 26, 27, 3, 28, 29, 30, 31, 32, 33, 34, 35, 36, 37, 38, 39, 40, 41, 42, 43, 44, 45, 46, 47, 48, 5, 6, 8, 49, 50, 51, 52, 70, 71, 72, 73, 53, 54, 55, 56, 57, 58, 59, 60, 61, 62, 63, 64, 9, 10, 11, 12, 13, 14, 15, 16, 17, 18, 19, 20, 83, 84, 85, 86, 87, 88, 89, 90, 91, 92, 93, 94, 95, 96, 97, 98, 99, 100, 101, 102, 103, 104, 105, 106, 107, 108, 109, 110, 111, 112, 113] (by decide +kernel) (by decide +kernel)
set_option maxRecDepth 20000 in
theorem gX10_tells_X10_doesTwo : GoodIn wsX10_tells (wsV RX10 208 RX10 yX10_doesTwo wsX10_doesTwo) := goodIn_app (goodIn_of _ (by decide +kernel)) ggX10_tells_X10_doesTwo
set_option maxRecDepth 20000 in
theorem ggX10_tells_X10_doesThree : GoodIn wsX10_tells wsX10_doesThree := goodIn_r _ [77, 78, 21, 22, 7, 23, 24, 25, 26, 27, 3, 28, 29, 30, 31, 32, 33, 34, 35, 36, 37, 38, 39, 40, 41, 42, 43, 44, 45, 46, 47, 48, 5, 6, 8, 49, 50, 51, 52, 79, 80, 81, 82, 53, 54, 55, 56, 57, 58, 59, 60, 61, 62, 63, 64, 9, 10, 11, 12, 13, 14, 15, 65, 66, 67, 68, 69, 70, 71, 72, 73, 16, 17, 18, 19, 20, 83, 84, 85, 86, 87, 88, 89, 90, 91, 92, 93, 94, 95, 96, 97, 98, 99, 100, 101, 102, 103, 104, 105, 106, 107, 108, 109, 110, 111, 112, 113] (by decide +kernel) (by decide +kernel)
set_option maxRecDepth 20000 in
theorem gX10_tells_X10_doesThree : GoodIn wsX10_tells (wsV RX10 220 RX10 yX10_doesThree wsX10_doesThree) := goodIn_app (goodIn_of _ (by decide +kernel)) ggX10_tells_X10_doesThree
theorem dX10_tells_0 : decode cX10_tells 0 = .ok (.aload_n 0, 1) := by decide +kernel
theorem dX10_tells_1 : decode cX10_tells 1 = .ok (.iconst 0, 1) := by decide +kernel
theorem dX10_tells_2 : decode cX10_tells 2 = .ok (.putfield 66, 3) := by decide +kernel
theorem dX10_tells_5 : decode cX10_tells 5 = .ok (.iload_n 1, 1) := by decide +kernel
theorem dX10_tells_6 : decode cX10_tells 6 = .ok (.i2l, 1) := by decide +kernel
theorem dX10_tells_7 : decode cX10_tells 7 = .ok (.lconst 1, 1) := by decide +kernel
theorem dX10_tells_8 : decode cX10_tells 8 = .ok (.ldc2_w 218, 3) := by decide +kernel
theorem dX10_tells_11 : decode cX10_tells 11 = .ok (.invokestatic 72, 3) := by decide +kernel
theorem dX10_tells_14 : decode cX10_tells 14 = .ok (.ifCond .eq 34, 3) := by decide +kernel
theorem dX10_tells_17 : decode cX10_tells 17 = .ok (.iload_n 2, 1) := by decide +kernel
theorem dX10_tells_18 : decode cX10_tells 18 = .ok (.iconst 5, 1) := by decide +kernel
theorem dX10_tells_19 : decode cX10_tells 19 = .ok (.if_icmp .eq 19, 3) := by decide +kernel
theorem dX10_tells_22 : decode cX10_tells 22 = .ok (.iload_n 2, 1) := by decide +kernel
theorem dX10_tells_23 : decode cX10_tells 23 = .ok (.i2l, 1) := by decide +kernel
theorem dX10_tells_24 : decode cX10_tells 24 = .ok (.lconst 0, 1) := by decide +kernel
theorem dX10_tells_25 : decode cX10_tells 25 = .ok (.aload_n 0, 1) := by decide +kernel
theorem dX10_tells_26 : decode cX10_tells 26 = .ok (.getfield 102, 3) := by decide +kernel
theorem dX10_tells_29 : decode cX10_tells 29 = .ok (.iconst 1, 1) := by decide +kernel
theorem dX10_tells_30 : decode cX10_tells 30 = .ok (.isub, 1) := by decide +kernel
theorem dX10_tells_31 : decode cX10_tells 31 = .ok (.i2l, 1) := by decide +kernel
theorem dX10_tells_32 : decode cX10_tells 32 = .ok (.invokestatic 72, 3) := by decide +kernel
theorem dX10_tells_35 : decode cX10_tells 35 = .ok (.ifCond .eq 13, 3) := by decide +kernel
theorem dX10_tells_38 : decode cX10_tells 38 = .ok (.iload_n 3, 1) := by decide +kernel
theorem dX10_tells_39 : decode cX10_tells 39 = .ok (.i2l, 1) := by decide +kernel
theorem dX10_tells_40 : decode cX10_tells 40 = .ok (.lconst 0, 1) := by decide +kernel
theorem dX10_tells_41 : decode cX10_tells 41 = .ok (.lconst 1, 1) := by decide +kernel
theorem dX10_tells_42 : decode cX10_tells 42 = .ok (.invokestatic 72, 3) := by decide +kernel
theorem dX10_tells_45 : decode cX10_tells 45 = .ok (.ifCond .ne 6, 3) := by decide +kernel
theorem dX10_tells_48 : decode cX10_tells 48 = .ok (.bipush (-2), 2) := by decide +kernel
theorem dX10_tells_50 : decode cX10_tells 50 = .ok (.ireturn, 1) := by decide +kernel
theorem dX10_tells_51 : decode cX10_tells 51 = .ok (.aload_n 0, 1) := by decide +kernel
theorem dX10_tells_52 : decode cX10_tells 52 = .ok (.getfield 16, 3) := by decide +kernel
theorem dX10_tells_55 : decode cX10_tells 55 = .ok (.bipush 7, 2) := by decide +kernel
theorem dX10_tells_57 : decode cX10_tells 57 = .ok (.iaload, 1) := by decide +kernel
theorem dX10_tells_58 : decode cX10_tells 58 = .ok (.istore 4, 2) := by decide +kernel
theorem dX10_tells_60 : decode cX10_tells 60 = .ok (.iconst 0, 1) := by decide +kernel
theorem dX10_tells_61 : decode cX10_tells 61 = .ok (.istore 5, 2) := by decide +kernel
theorem dX10_tells_63 : decode cX10_tells 63 = .ok (.iload 5, 2) := by decide +kernel
theorem dX10_tells_65 : decode cX10_tells 65 = .ok (.bipush 19, 2) := by decide +kernel
theorem dX10_tells_67 : decode cX10_tells 67 = .ok (.if_icmp .ge 103, 3) := by decide +kernel
theorem dX10_tells_70 : decode cX10_tells 70 = .ok (.aload_n 0, 1) := by decide +kernel
theorem dX10_tells_71 : decode cX10_tells 71 = .ok (.iload 5, 2) := by decide +kernel
theorem dX10_tells_73 : decode cX10_tells 73 = .ok (.invokevirtual 193, 3) := by decide +kernel
theorem dX10_tells_76 : decode cX10_tells 76 = .ok (.ifCond .ne 7, 3) := by decide +kernel
theorem dX10_tells_79 : decode cX10_tells 79 = .ok (.iconst 1, 1) := by decide +kernel
theorem dX10_tells_80 : decode cX10_tells 80 = .ok (.goto 4, 3) := by decide +kernel
theorem dX10_tells_83 : decode cX10_tells 83 = .ok (.iconst 0, 1) := by decide +kernel
theorem dX10_tells_84 : decode cX10_tells 84 = .ok (.istore 6, 2) := by decide +kernel
theorem dX10_tells_86 : decode cX10_tells 86 = .ok (.iload 6, 2) := by decide +kernel
theorem dX10_tells_88 : decode cX10_tells 88 = .ok (.ifCond .eq 60, 3) := by decide +kernel
theorem dX10_tells_91 : decode cX10_tells 91 = .ok (.iload_n 1, 1) := by decide +kernel
theorem dX10_tells_92 : decode cX10_tells 92 = .ok (.iconst 1, 1) := by decide +kernel
theorem dX10_tells_93 : decode cX10_tells 93 = .ok (.if_icmp .ne 19, 3) := by decide +kernel
theorem dX10_tells_96 : decode cX10_tells 96 = .ok (.aload_n 0, 1) := by decide +kernel
theorem dX10_tells_97 : decode cX10_tells 97 = .ok (.aload_n 0, 1) := by decide +kernel
theorem dX10_tells_98 : decode cX10_tells 98 = .ok (.getfield 16, 3) := by decide +kernel
theorem dX10_tells_101 : decode cX10_tells 101 = .ok (.iload 5, 2) := by decide +kernel
theorem dX10_tells_103 : decode cX10_tells 103 = .ok (.iload 4, 2) := by decide +kernel
theorem dX10_tells_105 : decode cX10_tells 105 = .ok (.iload_n 2, 1) := by decide +kernel
theorem dX10_tells_106 : decode cX10_tells 106 = .ok (.invokevirtual 201, 3) := by decide +kernel
theorem dX10_tells_109 : decode cX10_tells 109 = .ok (.goto 37, 3) := by decide +kernel
theorem dX10_tells_112 : decode cX10_tells 112 = .ok (.iload_n 1, 1) := by decide +kernel
theorem dX10_tells_113 : decode cX10_tells 113 = .ok (.iconst 2, 1) := by decide +kernel
theorem dX10_tells_114 : decode cX10_tells 114 = .ok (.if_icmp .ne 19, 3) := by decide +kernel
theorem dX10_tells_117 : decode cX10_tells 117 = .ok (.aload_n 0, 1) := by decide +kernel
theorem dX10_tells_118 : decode cX10_tells 118 = .ok (.aload_n 0, 1) := by decide +kernel
theorem dX10_tells_119 : decode cX10_tells 119 = .ok (.getfield 16, 3) := by decide +kernel
theorem dX10_tells_122 : decode cX10_tells 122 = .ok (.iload 5, 2) := by decide +kernel
theorem dX10_tells_124 : decode cX10_tells 124 = .ok (.iload 4, 2) := by decide +kernel
theorem dX10_tells_126 : decode cX10_tells 126 = .ok (.iload_n 2, 1) := by decide +kernel
theorem dX10_tells_127 : decode cX10_tells 127 = .ok (.invokevirtual 208, 3) := by decide +kernel
theorem dX10_tells_130 : decode cX10_tells 130 = .ok (.goto 16, 3) := by decide +kernel
theorem dX10_tells_133 : decode cX10_tells 133 = .ok (.aload_n 0, 1) := by decide +kernel
theorem dX10_tells_134 : decode cX10_tells 134 = .ok (.aload_n 0, 1) := by decide +kernel
theorem dX10_tells_135 : decode cX10_tells 135 = .ok (.getfield 16, 3) := by decide +kernel
theorem dX10_tells_138 : decode cX10_tells 138 = .ok (.iload 5, 2) := by decide +kernel
theorem dX10_tells_140 : decode cX10_tells 140 = .ok (.iload 4, 2) := by decide +kernel
theorem dX10_tells_142 : decode cX10_tells 142 = .ok (.iload_n 2, 1) := by decide +kernel
theorem dX10_tells_143 : decode cX10_tells 143 = .ok (.invokevirtual 220, 3) := by decide +kernel
theorem dX10_tells_146 : decode cX10_tells 146 = .ok (.istore 6, 2) := by decide +kernel
theorem dX10_tells_148 : decode cX10_tells 148 = .ok (.iload 6, 2) := by decide +kernel
theorem dX10_tells_150 : decode cX10_tells 150 = .ok (.ifCond .eq 14, 3) := by decide +kernel
theorem dX10_tells_153 : decode cX10_tells 153 = .ok (.iload_n 3, 1) := by decide +kernel
theorem dX10_tells_154 : decode cX10_tells 154 = .ok (.ifCond .ne 7, 3) := by decide +kernel
theorem dX10_tells_157 : decode cX10_tells 157 = .ok (.iconst 1, 1) := by decide +kernel
theorem dX10_tells_158 : decode cX10_tells 158 = .ok (.goto 5, 3) := by decide +kernel
theorem dX10_tells_161 : decode cX10_tells 161 = .ok (.iload 5, 2) := by decide +kernel
theorem dX10_tells_163 : decode cX10_tells 163 = .ok (.ireturn, 1) := by decide +kernel
theorem dX10_tells_164 : decode cX10_tells 164 = .ok (.iinc 5 1, 3) := by decide +kernel
theorem dX10_tells_167 : decode cX10_tells 167 = .ok (.goto (-104), 3) := by decide +kernel
theorem dX10_tells_170 : decode cX10_tells 170 = .ok (.iload_n 3, 1) := by decide +kernel
theorem dX10_tells_171 : decode cX10_tells 171 = .ok (.ifCond .ne 7, 3) := by decide +kernel
theorem dX10_tells_174 : decode cX10_tells 174 = .ok (.iconst 0, 1) := by decide +kernel
theorem dX10_tells_175 : decode cX10_tells 175 = .ok (.goto 5, 3) := by decide +kernel
theorem dX10_tells_178 : decode cX10_tells 178 = .ok (.bipush (-9), 2) := by decide +kernel
theorem dX10_tells_180 : decode cX10_tells 180 = .ok (.ireturn, 1) := by decide +kernel
theorem dX10_hundred_0 : decode cX10_hundred 0 = .ok (.lconst 1, 1) := by decide +kernel
theorem dX10_hundred_1 : decode cX10_hundred 1 = .ok (.lstore_n 1, 1) := by decide +kernel
theorem dX10_hundred_2 : decode cX10_hundred 2 = .ok (.iconst 0, 1) := by decide +kernel
theorem dX10_hundred_3 : decode cX10_hundred 3 = .ok (.istore_n 3, 1) := by decide +kernel
theorem dX10_hundred_4 : decode cX10_hundred 4 = .ok (.iload_n 3, 1) := by decide +kernel
theorem dX10_hundred_5 : decode cX10_hundred 5 = .ok (.iload_n 0, 1) := by decide +kernel
theorem dX10_hundred_6 : decode cX10_hundred 6 = .ok (.if_icmp .ge 15, 3) := by decide +kernel
theorem dX10_hundred_9 : decode cX10_hundred 9 = .ok (.lload_n 1, 1) := by decide +kernel
theorem dX10_hundred_10 : decode cX10_hundred 10 = .ok (.ldc2_w 223, 3) := by decide +kernel
theorem dX10_hundred_13 : decode cX10_hundred 13 = .ok (.lmul, 1) := by decide +kernel
theorem dX10_hundred_14 : decode cX10_hundred 14 = .ok (.lstore_n 1, 1) := by decide +kernel
theorem dX10_hundred_15 : decode cX10_hundred 15 = .ok (.iinc 3 1, 3) := by decide +kernel
theorem dX10_hundred_18 : decode cX10_hundred 18 = .ok (.goto (-14), 3) := by decide +kernel
theorem dX10_hundred_21 : decode cX10_hundred 21 = .ok (.lload_n 1, 1) := by decide +kernel
theorem dX10_hundred_22 : decode cX10_hundred 22 = .ok (.lreturn, 1) := by decide +kernel
set_option maxRecDepth 20000 in
theorem ggX10_choice_X10_in : GoodIn wsX10_choice wsX10_in := goodIn_r _ [11] (by decide +kernel) (by decide +kernel)
set_option maxRecDepth 20000 in
theorem gX10_choice_X10_in : GoodIn wsX10_choice (va_wsS RX10 72 yX10_in wsX10_in) := goodIn_app (goodIn_of _ (by decide +kernel)) ggX10_choice_X10_in
set_option maxRecDepth 20000 in
theorem ggX10_choice_X10_hundred : GoodIn wsX10_choice wsX10_hundred := goodIn_r _ [14, 3] (by decide +kernel) (by decide +kernel)
set_option maxRecDepth 20000 in
theorem gX10_choice_X10_hundred : GoodIn wsX10_choice (va_wsS RX10 227 yX10_hundred wsX10_hundred) := goodIn_app (goodIn_of _ (by decide +kernel)) ggX10_choice_X10_hundred
set_option maxRecDepth 20000 in
theorem ggX10_choice_X10_noSimple : GoodIn wsX10_choice wsX10_noSimple := goodIn_r _ [18, 19, 20, 21, 22, 8, 9, 10, 11, 58, 59, 60, 61, 62, 63, 64, 65, 66, 67, 68, 69, 70, 71, 72, 73, 74, 75, 76, 77, 78, 79, 80, 81, 82, 83, 84, 85, 86, 87, 88] (by decide +kernel) (by decide +kernel)
set_option maxRecDepth 20000 in
theorem gX10_choice_X10_noSimple : GoodIn wsX10_choice (wsV RX10 193 RX10 yX10_noSimple wsX10_noSimple) := goodIn_app (goodIn_of _ (by decide +kernel)) ggX10_choice_X10_noSimple
set_option maxRecDepth 20000 in
theorem ggX10_choice_X10_answerOf : GoodIn wsX10_choice wsX10_answerOf := goodIn_r _ [26, 27, 28, 29, 10, 30, 31, 32, 33, 34, 35, 36, 37, 20, 38, 8, 9, 11, 39, 40, 41, 42, 43, 44, 45, 58, 59, 60, 61, 62, 63, 64, 65, 66, 67, 68, 69, 70, 71, 72, 73, 74, 75, 76, 77, 78, 79, 80, 81, 82, 83, 84, 85, 86, 87, 88] (by decide +kernel) (by decide +kernel)
set_option maxRecDepth 20000 in
theorem gX10_choice_X10_answerOf : GoodIn wsX10_choice (wsV RX10 158 RX10 yX10_answerOf wsX10_answerOf) := goodIn_app (goodIn_of _ (by decide +kernel)) ggX10_choice_X10_answerOf
set_option maxRecDepth 20000 in
theorem ggX10_choice_X10_part : GoodIn wsX10_choice wsX10_part := goodIn_r _ [49, 20, 50, 51, 39, 40, 10, 41, 23, 24, 25, 26, 27, 28, 29, 30, 31, 32, 33, 34, 35, 36, 37, 38, 8, 9, 11, 42, 43, 44, 45, 58, 59, 60, 61, 62, 63, 64, 65, 66, 67, 68, 69, 70, 71, 72, 73, 74, 75, 76, 77, 78, 79, 80, 81, 82, 83, 84, 85, 86, 87, 88] (by decide +kernel) (by decide +kernel)
set_option maxRecDepth 20000 in
theorem gX10_choice_X10_part : GoodIn wsX10_choice (wsV RX10 175 RX10 yX10_part wsX10_part) := goodIn_app (goodIn_of _ (by decide +kernel)) ggX10_choice_X10_part
set_option maxRecDepth 20000 in
theorem ggX10_choice_X10_knownMany : GoodIn wsX10_choice wsX10_knownMany := goodIn_r _ [54, 55, 56, 10, 57] (by decide +kernel) (by decide +kernel)
set_option maxRecDepth 20000 in
theorem gX10_choice_X10_knownMany : GoodIn wsX10_choice (va_wsS RX10 132 yX10_knownMany wsX10_knownMany) := goodIn_app (goodIn_of _ (by decide +kernel)) ggX10_choice_X10_knownMany
theorem dX10_choice_0 : decode cX10_choice 0 = .ok (.aload_n 0, 1) := by decide +kernel
theorem dX10_choice_1 : decode cX10_choice 1 = .ok (.iconst 0, 1) := by decide +kernel
theorem dX10_choice_2 : decode cX10_choice 2 = .ok (.putfield 66, 3) := by decide +kernel
theorem dX10_choice_5 : decode cX10_choice 5 = .ok (.iload_n 1, 1) := by decide +kernel
theorem dX10_choice_6 : decode cX10_choice 6 = .ok (.i2l, 1) := by decide +kernel
theorem dX10_choice_7 : decode cX10_choice 7 = .ok (.lconst 1, 1) := by decide +kernel
theorem dX10_choice_8 : decode cX10_choice 8 = .ok (.ldc2_w 225, 3) := by decide +kernel
theorem dX10_choice_11 : decode cX10_choice 11 = .ok (.invokestatic 72, 3) := by decide +kernel
theorem dX10_choice_14 : decode cX10_choice 14 = .ok (.ifCond .eq 28, 3) := by decide +kernel
theorem dX10_choice_17 : decode cX10_choice 17 = .ok (.lload_n 2, 1) := by decide +kernel
theorem dX10_choice_18 : decode cX10_choice 18 = .ok (.lconst 0, 1) := by decide +kernel
theorem dX10_choice_19 : decode cX10_choice 19 = .ok (.iload_n 1, 1) := by decide +kernel
theorem dX10_choice_20 : decode cX10_choice 20 = .ok (.invokestatic 227, 3) := by decide +kernel
theorem dX10_choice_23 : decode cX10_choice 23 = .ok (.lconst 1, 1) := by decide +kernel
theorem dX10_choice_24 : decode cX10_choice 24 = .ok (.lsub, 1) := by decide +kernel
theorem dX10_choice_25 : decode cX10_choice 25 = .ok (.invokestatic 72, 3) := by decide +kernel
theorem dX10_choice_28 : decode cX10_choice 28 = .ok (.ifCond .eq 14, 3) := by decide +kernel
theorem dX10_choice_31 : decode cX10_choice 31 = .ok (.iload 4, 2) := by decide +kernel
theorem dX10_choice_33 : decode cX10_choice 33 = .ok (.i2l, 1) := by decide +kernel
theorem dX10_choice_34 : decode cX10_choice 34 = .ok (.lconst 0, 1) := by decide +kernel
theorem dX10_choice_35 : decode cX10_choice 35 = .ok (.lconst 1, 1) := by decide +kernel
theorem dX10_choice_36 : decode cX10_choice 36 = .ok (.invokestatic 72, 3) := by decide +kernel
theorem dX10_choice_39 : decode cX10_choice 39 = .ok (.ifCond .ne 6, 3) := by decide +kernel
theorem dX10_choice_42 : decode cX10_choice 42 = .ok (.bipush (-2), 2) := by decide +kernel
theorem dX10_choice_44 : decode cX10_choice 44 = .ok (.ireturn, 1) := by decide +kernel
theorem dX10_choice_45 : decode cX10_choice 45 = .ok (.iconst 0, 1) := by decide +kernel
theorem dX10_choice_46 : decode cX10_choice 46 = .ok (.istore 5, 2) := by decide +kernel
theorem dX10_choice_48 : decode cX10_choice 48 = .ok (.iload 5, 2) := by decide +kernel
theorem dX10_choice_50 : decode cX10_choice 50 = .ok (.iload_n 1, 1) := by decide +kernel
theorem dX10_choice_51 : decode cX10_choice 51 = .ok (.if_icmp .ge 35, 3) := by decide +kernel
theorem dX10_choice_54 : decode cX10_choice 54 = .ok (.aload_n 0, 1) := by decide +kernel
theorem dX10_choice_55 : decode cX10_choice 55 = .ok (.lload_n 2, 1) := by decide +kernel
theorem dX10_choice_56 : decode cX10_choice 56 = .ok (.iload_n 1, 1) := by decide +kernel
theorem dX10_choice_57 : decode cX10_choice 57 = .ok (.iconst 1, 1) := by decide +kernel
theorem dX10_choice_58 : decode cX10_choice 58 = .ok (.isub, 1) := by decide +kernel
theorem dX10_choice_59 : decode cX10_choice 59 = .ok (.iload 5, 2) := by decide +kernel
theorem dX10_choice_61 : decode cX10_choice 61 = .ok (.isub, 1) := by decide +kernel
theorem dX10_choice_62 : decode cX10_choice 62 = .ok (.invokestatic 227, 3) := by decide +kernel
theorem dX10_choice_65 : decode cX10_choice 65 = .ok (.ldiv, 1) := by decide +kernel
theorem dX10_choice_66 : decode cX10_choice 66 = .ok (.ldc2_w 223, 3) := by decide +kernel
theorem dX10_choice_69 : decode cX10_choice 69 = .ok (.lrem, 1) := by decide +kernel
theorem dX10_choice_70 : decode cX10_choice 70 = .ok (.l2i, 1) := by decide +kernel
theorem dX10_choice_71 : decode cX10_choice 71 = .ok (.invokevirtual 193, 3) := by decide +kernel
theorem dX10_choice_74 : decode cX10_choice 74 = .ok (.ifCond .eq 6, 3) := by decide +kernel
theorem dX10_choice_77 : decode cX10_choice 77 = .ok (.bipush (-2), 2) := by decide +kernel
theorem dX10_choice_79 : decode cX10_choice 79 = .ok (.ireturn, 1) := by decide +kernel
theorem dX10_choice_80 : decode cX10_choice 80 = .ok (.iinc 5 1, 3) := by decide +kernel
theorem dX10_choice_83 : decode cX10_choice 83 = .ok (.goto (-35), 3) := by decide +kernel
theorem dX10_choice_86 : decode cX10_choice 86 = .ok (.bipush (-9), 2) := by decide +kernel
theorem dX10_choice_88 : decode cX10_choice 88 = .ok (.istore 5, 2) := by decide +kernel
theorem dX10_choice_90 : decode cX10_choice 90 = .ok (.bipush (-9), 2) := by decide +kernel
theorem dX10_choice_92 : decode cX10_choice 92 = .ok (.istore 6, 2) := by decide +kernel
theorem dX10_choice_94 : decode cX10_choice 94 = .ok (.iconst 0, 1) := by decide +kernel
theorem dX10_choice_95 : decode cX10_choice 95 = .ok (.istore 7, 2) := by decide +kernel
theorem dX10_choice_97 : decode cX10_choice 97 = .ok (.iload 7, 2) := by decide +kernel
theorem dX10_choice_99 : decode cX10_choice 99 = .ok (.bipush 7, 2) := by decide +kernel
theorem dX10_choice_101 : decode cX10_choice 101 = .ok (.if_icmp .ge 170, 3) := by decide +kernel
theorem dX10_choice_104 : decode cX10_choice 104 = .ok (.iconst 0, 1) := by decide +kernel
theorem dX10_choice_105 : decode cX10_choice 105 = .ok (.istore 8, 2) := by decide +kernel
theorem dX10_choice_107 : decode cX10_choice 107 = .ok (.iload 8, 2) := by decide +kernel
theorem dX10_choice_109 : decode cX10_choice 109 = .ok (.bipush 7, 2) := by decide +kernel
theorem dX10_choice_111 : decode cX10_choice 111 = .ok (.if_icmp .ge 23, 3) := by decide +kernel
theorem dX10_choice_114 : decode cX10_choice 114 = .ok (.aload_n 0, 1) := by decide +kernel
theorem dX10_choice_115 : decode cX10_choice 115 = .ok (.getfield 54, 3) := by decide +kernel
theorem dX10_choice_118 : decode cX10_choice 118 = .ok (.iload 8, 2) := by decide +kernel
theorem dX10_choice_120 : decode cX10_choice 120 = .ok (.aload_n 0, 1) := by decide +kernel
theorem dX10_choice_121 : decode cX10_choice 121 = .ok (.getfield 16, 3) := by decide +kernel
theorem dX10_choice_124 : decode cX10_choice 124 = .ok (.iload 8, 2) := by decide +kernel
theorem dX10_choice_126 : decode cX10_choice 126 = .ok (.iaload, 1) := by decide +kernel
theorem dX10_choice_127 : decode cX10_choice 127 = .ok (.iastore, 1) := by decide +kernel
theorem dX10_choice_128 : decode cX10_choice 128 = .ok (.iinc 8 1, 3) := by decide +kernel
theorem dX10_choice_131 : decode cX10_choice 131 = .ok (.goto (-24), 3) := by decide +kernel
theorem dX10_choice_134 : decode cX10_choice 134 = .ok (.iconst 0, 1) := by decide +kernel
theorem dX10_choice_135 : decode cX10_choice 135 = .ok (.istore 8, 2) := by decide +kernel
theorem dX10_choice_137 : decode cX10_choice 137 = .ok (.iload 8, 2) := by decide +kernel
theorem dX10_choice_139 : decode cX10_choice 139 = .ok (.iload_n 1, 1) := by decide +kernel
theorem dX10_choice_140 : decode cX10_choice 140 = .ok (.if_icmp .ge 101, 3) := by decide +kernel
theorem dX10_choice_143 : decode cX10_choice 143 = .ok (.lload_n 2, 1) := by decide +kernel
theorem dX10_choice_144 : decode cX10_choice 144 = .ok (.iload_n 1, 1) := by decide +kernel
theorem dX10_choice_145 : decode cX10_choice 145 = .ok (.iconst 1, 1) := by decide +kernel
theorem dX10_choice_146 : decode cX10_choice 146 = .ok (.isub, 1) := by decide +kernel
theorem dX10_choice_147 : decode cX10_choice 147 = .ok (.iload 8, 2) := by decide +kernel
theorem dX10_choice_149 : decode cX10_choice 149 = .ok (.isub, 1) := by decide +kernel
theorem dX10_choice_150 : decode cX10_choice 150 = .ok (.invokestatic 227, 3) := by decide +kernel
theorem dX10_choice_153 : decode cX10_choice 153 = .ok (.ldiv, 1) := by decide +kernel
theorem dX10_choice_154 : decode cX10_choice 154 = .ok (.ldc2_w 223, 3) := by decide +kernel
theorem dX10_choice_157 : decode cX10_choice 157 = .ok (.lrem, 1) := by decide +kernel
theorem dX10_choice_158 : decode cX10_choice 158 = .ok (.l2i, 1) := by decide +kernel
theorem dX10_choice_159 : decode cX10_choice 159 = .ok (.istore 9, 2) := by decide +kernel
theorem dX10_choice_161 : decode cX10_choice 161 = .ok (.aload_n 0, 1) := by decide +kernel
theorem dX10_choice_162 : decode cX10_choice 162 = .ok (.getfield 16, 3) := by decide +kernel
theorem dX10_choice_165 : decode cX10_choice 165 = .ok (.bipush 7, 2) := by decide +kernel
theorem dX10_choice_167 : decode cX10_choice 167 = .ok (.iaload, 1) := by decide +kernel
theorem dX10_choice_168 : decode cX10_choice 168 = .ok (.iload 8, 2) := by decide +kernel
theorem dX10_choice_170 : decode cX10_choice 170 = .ok (.iadd, 1) := by decide +kernel
theorem dX10_choice_171 : decode cX10_choice 171 = .ok (.istore 10, 2) := by decide +kernel
theorem dX10_choice_173 : decode cX10_choice 173 = .ok (.aload_n 0, 1) := by decide +kernel
theorem dX10_choice_174 : decode cX10_choice 174 = .ok (.aload_n 0, 1) := by decide +kernel
theorem dX10_choice_175 : decode cX10_choice 175 = .ok (.getfield 54, 3) := by decide +kernel
theorem dX10_choice_178 : decode cX10_choice 178 = .ok (.iload 9, 2) := by decide +kernel
theorem dX10_choice_180 : decode cX10_choice 180 = .ok (.iload 10, 2) := by decide +kernel
theorem dX10_choice_182 : decode cX10_choice 182 = .ok (.aload_n 0, 1) := by decide +kernel
theorem dX10_choice_183 : decode cX10_choice 183 = .ok (.iload 9, 2) := by decide +kernel
theorem dX10_choice_185 : decode cX10_choice 185 = .ok (.iload 10, 2) := by decide +kernel
theorem dX10_choice_187 : decode cX10_choice 187 = .ok (.iload 7, 2) := by decide +kernel
theorem dX10_choice_189 : decode cX10_choice 189 = .ok (.iload 7, 2) := by decide +kernel
theorem dX10_choice_191 : decode cX10_choice 191 = .ok (.aload_n 0, 1) := by decide +kernel
theorem dX10_choice_192 : decode cX10_choice 192 = .ok (.getfield 105, 3) := by decide +kernel
theorem dX10_choice_195 : decode cX10_choice 195 = .ok (.invokevirtual 158, 3) := by decide +kernel
theorem dX10_choice_198 : decode cX10_choice 198 = .ok (.aload_n 0, 1) := by decide +kernel
theorem dX10_choice_199 : decode cX10_choice 199 = .ok (.getfield 57, 3) := by decide +kernel
theorem dX10_choice_202 : decode cX10_choice 202 = .ok (.invokevirtual 175, 3) := by decide +kernel
theorem dX10_choice_205 : decode cX10_choice 205 = .ok (.iconst 0, 1) := by decide +kernel
theorem dX10_choice_206 : decode cX10_choice 206 = .ok (.istore 11, 2) := by decide +kernel
theorem dX10_choice_208 : decode cX10_choice 208 = .ok (.iload 11, 2) := by decide +kernel
theorem dX10_choice_210 : decode cX10_choice 210 = .ok (.bipush 7, 2) := by decide +kernel
theorem dX10_choice_212 : decode cX10_choice 212 = .ok (.if_icmp .ge 23, 3) := by decide +kernel
theorem dX10_choice_215 : decode cX10_choice 215 = .ok (.aload_n 0, 1) := by decide +kernel
theorem dX10_choice_216 : decode cX10_choice 216 = .ok (.getfield 54, 3) := by decide +kernel
theorem dX10_choice_219 : decode cX10_choice 219 = .ok (.iload 11, 2) := by decide +kernel
theorem dX10_choice_221 : decode cX10_choice 221 = .ok (.aload_n 0, 1) := by decide +kernel
theorem dX10_choice_222 : decode cX10_choice 222 = .ok (.getfield 57, 3) := by decide +kernel
theorem dX10_choice_225 : decode cX10_choice 225 = .ok (.iload 11, 2) := by decide +kernel
theorem dX10_choice_227 : decode cX10_choice 227 = .ok (.iaload, 1) := by decide +kernel
theorem dX10_choice_228 : decode cX10_choice 228 = .ok (.iastore, 1) := by decide +kernel
theorem dX10_choice_229 : decode cX10_choice 229 = .ok (.iinc 11 1, 3) := by decide +kernel
theorem dX10_choice_232 : decode cX10_choice 232 = .ok (.goto (-24), 3) := by decide +kernel
theorem dX10_choice_235 : decode cX10_choice 235 = .ok (.iinc 8 1, 3) := by decide +kernel
theorem dX10_choice_238 : decode cX10_choice 238 = .ok (.goto (-101), 3) := by decide +kernel
theorem dX10_choice_241 : decode cX10_choice 241 = .ok (.aload_n 0, 1) := by decide +kernel
theorem dX10_choice_242 : decode cX10_choice 242 = .ok (.getfield 54, 3) := by decide +kernel
theorem dX10_choice_245 : decode cX10_choice 245 = .ok (.invokestatic 132, 3) := by decide +kernel
theorem dX10_choice_248 : decode cX10_choice 248 = .ok (.istore 8, 2) := by decide +kernel
theorem dX10_choice_250 : decode cX10_choice 250 = .ok (.iload 8, 2) := by decide +kernel
theorem dX10_choice_252 : decode cX10_choice 252 = .ok (.iload 6, 2) := by decide +kernel
theorem dX10_choice_254 : decode cX10_choice 254 = .ok (.if_icmp .le 11, 3) := by decide +kernel
theorem dX10_choice_257 : decode cX10_choice 257 = .ok (.iload 8, 2) := by decide +kernel
theorem dX10_choice_259 : decode cX10_choice 259 = .ok (.istore 6, 2) := by decide +kernel
theorem dX10_choice_261 : decode cX10_choice 261 = .ok (.iload 7, 2) := by decide +kernel
theorem dX10_choice_263 : decode cX10_choice 263 = .ok (.istore 5, 2) := by decide +kernel
theorem dX10_choice_265 : decode cX10_choice 265 = .ok (.iinc 7 1, 3) := by decide +kernel
theorem dX10_choice_268 : decode cX10_choice 268 = .ok (.goto (-171), 3) := by decide +kernel
theorem dX10_choice_271 : decode cX10_choice 271 = .ok (.iload 4, 2) := by decide +kernel
theorem dX10_choice_273 : decode cX10_choice 273 = .ok (.ifCond .ne 8, 3) := by decide +kernel
theorem dX10_choice_276 : decode cX10_choice 276 = .ok (.iload 5, 2) := by decide +kernel
theorem dX10_choice_278 : decode cX10_choice 278 = .ok (.goto 5, 3) := by decide +kernel
theorem dX10_choice_281 : decode cX10_choice 281 = .ok (.iload 6, 2) := by decide +kernel
theorem dX10_choice_283 : decode cX10_choice 283 = .ok (.ireturn, 1) := by decide +kernel
set_option maxRecDepth 20000 in
theorem ggX10_both_X10_in : GoodIn wsX10_both wsX10_in := goodIn_r _ [8] (by decide +kernel) (by decide +kernel)
set_option maxRecDepth 20000 in
theorem gX10_both_X10_in : GoodIn wsX10_both (va_wsS RX10 72 yX10_in wsX10_in) := goodIn_app (goodIn_of _ (by decide +kernel)) ggX10_both_X10_in
set_option maxRecDepth 20000 in
theorem ggX10_both_X10_slipOf : GoodIn wsX10_both wsX10_slipOf := goodIn_r _ [12, 13, 14, 15, 16, 17, 7, 18, 4, 19, 5, 6, 8, 36, 37, 38, 39, 40, 41, 42, 43, 44, 45, 46, 47, 48, 49, 50, 51, 52, 53, 54, 55, 56, 57, 58, 59, 60, 61, 62, 63, 64, 65, 66] (by decide +kernel) (by decide +kernel)
set_option maxRecDepth 20000 in
theorem gX10_both_X10_slipOf : GoodIn wsX10_both (wsV RX10 126 RX10 yX10_slipOf wsX10_slipOf) := goodIn_app (goodIn_of _ (by decide +kernel)) ggX10_both_X10_slipOf
set_option maxRecDepth 20000 in
theorem ggX10_both_X10_answerOf : GoodIn wsX10_both wsX10_answerOf := goodIn_r _ [23, 24, 25, 26, 7, 27, 13, 14, 28, 15, 16, 17, 18, 4, 19, 5, 6, 8, 29, 30, 31, 32, 33, 34, 35, 36, 37, 38, 39, 40, 41, 42, 43, 44, 45, 46, 47, 48, 49, 50, 51, 52, 53, 54, 55, 56, 57, 58, 59, 60, 61, 62, 63, 64, 65, 66] (by decide +kernel) (by decide +kernel)
set_option maxRecDepth 20000 in
theorem gX10_both_X10_answerOf : GoodIn wsX10_both (wsV RX10 158 RX10 yX10_answerOf wsX10_answerOf) := goodIn_app (goodIn_of _ (by decide +kernel)) ggX10_both_X10_answerOf
set_option maxRecDepth 20000 in
theorem ggX10_both_X10_has : GoodIn wsX10_both wsX10_has := goodIn_r _ [31] (by decide +kernel) (by decide +kernel)
set_option maxRecDepth 20000 in
theorem gX10_both_X10_has : GoodIn wsX10_both (va_wsS RX10 146 yX10_has wsX10_has) := goodIn_app (goodIn_of _ (by decide +kernel)) ggX10_both_X10_has
theorem dX10_both_0 : decode cX10_both 0 = .ok (.aload_n 0, 1) := by decide +kernel
theorem dX10_both_1 : decode cX10_both 1 = .ok (.iconst 0, 1) := by decide +kernel
theorem dX10_both_2 : decode cX10_both 2 = .ok (.putfield 66, 3) := by decide +kernel
theorem dX10_both_5 : decode cX10_both 5 = .ok (.iload_n 1, 1) := by decide +kernel
theorem dX10_both_6 : decode cX10_both 6 = .ok (.i2l, 1) := by decide +kernel
theorem dX10_both_7 : decode cX10_both 7 = .ok (.lconst 0, 1) := by decide +kernel
theorem dX10_both_8 : decode cX10_both 8 = .ok (.lconst 1, 1) := by decide +kernel
theorem dX10_both_9 : decode cX10_both 9 = .ok (.invokestatic 72, 3) := by decide +kernel
theorem dX10_both_12 : decode cX10_both 12 = .ok (.ifCond .ne 6, 3) := by decide +kernel
theorem dX10_both_15 : decode cX10_both 15 = .ok (.bipush (-2), 2) := by decide +kernel
theorem dX10_both_17 : decode cX10_both 17 = .ok (.ireturn, 1) := by decide +kernel
theorem dX10_both_18 : decode cX10_both 18 = .ok (.aload_n 0, 1) := by decide +kernel
theorem dX10_both_19 : decode cX10_both 19 = .ok (.invokevirtual 126, 3) := by decide +kernel
theorem dX10_both_22 : decode cX10_both 22 = .ok (.bipush (-9), 2) := by decide +kernel
theorem dX10_both_24 : decode cX10_both 24 = .ok (.if_icmp .eq 6, 3) := by decide +kernel
theorem dX10_both_27 : decode cX10_both 27 = .ok (.bipush (-3), 2) := by decide +kernel
theorem dX10_both_29 : decode cX10_both 29 = .ok (.ireturn, 1) := by decide +kernel
theorem dX10_both_30 : decode cX10_both 30 = .ok (.aload_n 0, 1) := by decide +kernel
theorem dX10_both_31 : decode cX10_both 31 = .ok (.getfield 16, 3) := by decide +kernel
theorem dX10_both_34 : decode cX10_both 34 = .ok (.bipush 7, 2) := by decide +kernel
theorem dX10_both_36 : decode cX10_both 36 = .ok (.iaload, 1) := by decide +kernel
theorem dX10_both_37 : decode cX10_both 37 = .ok (.istore_n 2, 1) := by decide +kernel
theorem dX10_both_38 : decode cX10_both 38 = .ok (.aload_n 0, 1) := by decide +kernel
theorem dX10_both_39 : decode cX10_both 39 = .ok (.bipush (-9), 2) := by decide +kernel
theorem dX10_both_41 : decode cX10_both 41 = .ok (.iload_n 2, 1) := by decide +kernel
theorem dX10_both_42 : decode cX10_both 42 = .ok (.aload_n 0, 1) := by decide +kernel
theorem dX10_both_43 : decode cX10_both 43 = .ok (.getfield 16, 3) := by decide +kernel
theorem dX10_both_46 : decode cX10_both 46 = .ok (.bipush 8, 2) := by decide +kernel
theorem dX10_both_48 : decode cX10_both 48 = .ok (.iaload, 1) := by decide +kernel
theorem dX10_both_49 : decode cX10_both 49 = .ok (.aload_n 0, 1) := by decide +kernel
theorem dX10_both_50 : decode cX10_both 50 = .ok (.getfield 16, 3) := by decide +kernel
theorem dX10_both_53 : decode cX10_both 53 = .ok (.bipush 8, 2) := by decide +kernel
theorem dX10_both_55 : decode cX10_both 55 = .ok (.iaload, 1) := by decide +kernel
theorem dX10_both_56 : decode cX10_both 56 = .ok (.aload_n 0, 1) := by decide +kernel
theorem dX10_both_57 : decode cX10_both 57 = .ok (.getfield 105, 3) := by decide +kernel
theorem dX10_both_60 : decode cX10_both 60 = .ok (.invokevirtual 158, 3) := by decide +kernel
theorem dX10_both_63 : decode cX10_both 63 = .ok (.istore_n 3, 1) := by decide +kernel
theorem dX10_both_64 : decode cX10_both 64 = .ok (.aload_n 0, 1) := by decide +kernel
theorem dX10_both_65 : decode cX10_both 65 = .ok (.bipush (-9), 2) := by decide +kernel
theorem dX10_both_67 : decode cX10_both 67 = .ok (.iload_n 2, 1) := by decide +kernel
theorem dX10_both_68 : decode cX10_both 68 = .ok (.aload_n 0, 1) := by decide +kernel
theorem dX10_both_69 : decode cX10_both 69 = .ok (.getfield 16, 3) := by decide +kernel
theorem dX10_both_72 : decode cX10_both 72 = .ok (.bipush 8, 2) := by decide +kernel
theorem dX10_both_74 : decode cX10_both 74 = .ok (.iaload, 1) := by decide +kernel
theorem dX10_both_75 : decode cX10_both 75 = .ok (.aload_n 0, 1) := by decide +kernel
theorem dX10_both_76 : decode cX10_both 76 = .ok (.getfield 16, 3) := by decide +kernel
theorem dX10_both_79 : decode cX10_both 79 = .ok (.bipush 8, 2) := by decide +kernel
theorem dX10_both_81 : decode cX10_both 81 = .ok (.iaload, 1) := by decide +kernel
theorem dX10_both_82 : decode cX10_both 82 = .ok (.iconst 1, 1) := by decide +kernel
theorem dX10_both_83 : decode cX10_both 83 = .ok (.iadd, 1) := by decide +kernel
theorem dX10_both_84 : decode cX10_both 84 = .ok (.bipush 7, 2) := by decide +kernel
theorem dX10_both_86 : decode cX10_both 86 = .ok (.irem, 1) := by decide +kernel
theorem dX10_both_87 : decode cX10_both 87 = .ok (.aload_n 0, 1) := by decide +kernel
theorem dX10_both_88 : decode cX10_both 88 = .ok (.getfield 105, 3) := by decide +kernel
theorem dX10_both_91 : decode cX10_both 91 = .ok (.invokevirtual 158, 3) := by decide +kernel
theorem dX10_both_94 : decode cX10_both 94 = .ok (.istore 4, 2) := by decide +kernel
theorem dX10_both_96 : decode cX10_both 96 = .ok (.iconst 0, 1) := by decide +kernel
theorem dX10_both_97 : decode cX10_both 97 = .ok (.istore 5, 2) := by decide +kernel
theorem dX10_both_99 : decode cX10_both 99 = .ok (.iconst 0, 1) := by decide +kernel
theorem dX10_both_100 : decode cX10_both 100 = .ok (.istore 6, 2) := by decide +kernel
theorem dX10_both_102 : decode cX10_both 102 = .ok (.iload 6, 2) := by decide +kernel
theorem dX10_both_104 : decode cX10_both 104 = .ok (.bipush 7, 2) := by decide +kernel
theorem dX10_both_106 : decode cX10_both 106 = .ok (.if_icmp .ge 121, 3) := by decide +kernel
theorem dX10_both_109 : decode cX10_both 109 = .ok (.iconst 0, 1) := by decide +kernel
theorem dX10_both_110 : decode cX10_both 110 = .ok (.istore 7, 2) := by decide +kernel
theorem dX10_both_112 : decode cX10_both 112 = .ok (.iload 7, 2) := by decide +kernel
theorem dX10_both_114 : decode cX10_both 114 = .ok (.iconst 1, 1) := by decide +kernel
theorem dX10_both_115 : decode cX10_both 115 = .ok (.aload_n 0, 1) := by decide +kernel
theorem dX10_both_116 : decode cX10_both 116 = .ok (.getfield 102, 3) := by decide +kernel
theorem dX10_both_119 : decode cX10_both 119 = .ok (.ishl, 1) := by decide +kernel
theorem dX10_both_120 : decode cX10_both 120 = .ok (.if_icmp .ge 101, 3) := by decide +kernel
theorem dX10_both_123 : decode cX10_both 123 = .ok (.aload_n 0, 1) := by decide +kernel
theorem dX10_both_124 : decode cX10_both 124 = .ok (.getfield 16, 3) := by decide +kernel
theorem dX10_both_127 : decode cX10_both 127 = .ok (.iload 6, 2) := by decide +kernel
theorem dX10_both_129 : decode cX10_both 129 = .ok (.iaload, 1) := by decide +kernel
theorem dX10_both_130 : decode cX10_both 130 = .ok (.iload 7, 2) := by decide +kernel
theorem dX10_both_132 : decode cX10_both 132 = .ok (.invokestatic 146, 3) := by decide +kernel
theorem dX10_both_135 : decode cX10_both 135 = .ok (.ifCond .eq 80, 3) := by decide +kernel
theorem dX10_both_138 : decode cX10_both 138 = .ok (.aload_n 0, 1) := by decide +kernel
theorem dX10_both_139 : decode cX10_both 139 = .ok (.bipush (-9), 2) := by decide +kernel
theorem dX10_both_141 : decode cX10_both 141 = .ok (.iload_n 2, 1) := by decide +kernel
theorem dX10_both_142 : decode cX10_both 142 = .ok (.iload 6, 2) := by decide +kernel
theorem dX10_both_144 : decode cX10_both 144 = .ok (.iload 6, 2) := by decide +kernel
theorem dX10_both_146 : decode cX10_both 146 = .ok (.iload 7, 2) := by decide +kernel
theorem dX10_both_148 : decode cX10_both 148 = .ok (.invokevirtual 158, 3) := by decide +kernel
theorem dX10_both_151 : decode cX10_both 151 = .ok (.istore 8, 2) := by decide +kernel
theorem dX10_both_153 : decode cX10_both 153 = .ok (.aload_n 0, 1) := by decide +kernel
theorem dX10_both_154 : decode cX10_both 154 = .ok (.bipush (-9), 2) := by decide +kernel
theorem dX10_both_156 : decode cX10_both 156 = .ok (.iload_n 2, 1) := by decide +kernel
theorem dX10_both_157 : decode cX10_both 157 = .ok (.iload 6, 2) := by decide +kernel
theorem dX10_both_159 : decode cX10_both 159 = .ok (.iload 6, 2) := by decide +kernel
theorem dX10_both_161 : decode cX10_both 161 = .ok (.iconst 1, 1) := by decide +kernel
theorem dX10_both_162 : decode cX10_both 162 = .ok (.iadd, 1) := by decide +kernel
theorem dX10_both_163 : decode cX10_both 163 = .ok (.bipush 7, 2) := by decide +kernel
theorem dX10_both_165 : decode cX10_both 165 = .ok (.irem, 1) := by decide +kernel
theorem dX10_both_166 : decode cX10_both 166 = .ok (.iload 7, 2) := by decide +kernel
theorem dX10_both_168 : decode cX10_both 168 = .ok (.invokevirtual 158, 3) := by decide +kernel
theorem dX10_both_171 : decode cX10_both 171 = .ok (.istore 9, 2) := by decide +kernel
theorem dX10_both_173 : decode cX10_both 173 = .ok (.iload 5, 2) := by decide +kernel
theorem dX10_both_175 : decode cX10_both 175 = .ok (.iload_n 1, 1) := by decide +kernel
theorem dX10_both_176 : decode cX10_both 176 = .ok (.ifCond .ne 24, 3) := by decide +kernel
theorem dX10_both_179 : decode cX10_both 179 = .ok (.iload 8, 2) := by decide +kernel
theorem dX10_both_181 : decode cX10_both 181 = .ok (.iload_n 3, 1) := by decide +kernel
theorem dX10_both_182 : decode cX10_both 182 = .ok (.if_icmp .ne 14, 3) := by decide +kernel
theorem dX10_both_185 : decode cX10_both 185 = .ok (.iload 9, 2) := by decide +kernel
theorem dX10_both_187 : decode cX10_both 187 = .ok (.iload 4, 2) := by decide +kernel
theorem dX10_both_189 : decode cX10_both 189 = .ok (.if_icmp .ne 7, 3) := by decide +kernel
theorem dX10_both_192 : decode cX10_both 192 = .ok (.iconst 1, 1) := by decide +kernel
theorem dX10_both_193 : decode cX10_both 193 = .ok (.goto 19, 3) := by decide +kernel
theorem dX10_both_196 : decode cX10_both 196 = .ok (.iconst 0, 1) := by decide +kernel
theorem dX10_both_197 : decode cX10_both 197 = .ok (.goto 15, 3) := by decide +kernel
theorem dX10_both_200 : decode cX10_both 200 = .ok (.iload 8, 2) := by decide +kernel
theorem dX10_both_202 : decode cX10_both 202 = .ok (.iload 9, 2) := by decide +kernel
theorem dX10_both_204 : decode cX10_both 204 = .ok (.if_icmp .ne 7, 3) := by decide +kernel
theorem dX10_both_207 : decode cX10_both 207 = .ok (.iconst 1, 1) := by decide +kernel
theorem dX10_both_208 : decode cX10_both 208 = .ok (.goto 4, 3) := by decide +kernel
theorem dX10_both_211 : decode cX10_both 211 = .ok (.iconst 0, 1) := by decide +kernel
theorem dX10_both_212 : decode cX10_both 212 = .ok (.iadd, 1) := by decide +kernel
theorem dX10_both_213 : decode cX10_both 213 = .ok (.istore 5, 2) := by decide +kernel
theorem dX10_both_215 : decode cX10_both 215 = .ok (.iinc 7 1, 3) := by decide +kernel
theorem dX10_both_218 : decode cX10_both 218 = .ok (.goto (-106), 3) := by decide +kernel
theorem dX10_both_221 : decode cX10_both 221 = .ok (.iinc 6 1, 3) := by decide +kernel
theorem dX10_both_224 : decode cX10_both 224 = .ok (.goto (-122), 3) := by decide +kernel
theorem dX10_both_227 : decode cX10_both 227 = .ok (.iload 5, 2) := by decide +kernel
theorem dX10_both_229 : decode cX10_both 229 = .ok (.ireturn, 1) := by decide +kernel
set_option maxRecDepth 20000 in
theorem ggX10_tell_X10_noSimple : GoodIn wsX10_tell wsX10_noSimple := goodIn_r _ [11, 12, 13, 14, 15, 16, 17, 10, 18, 19, 20, 21, 22, 23, 24, 25, 26, 27, 28, 29, 30, 31, 32, 33, 34, 35, 36, 37, 38, 39, 40, 41, 42, 43, 44, 45, 46, 47, 48, 49] (by decide +kernel) (by decide +kernel)
set_option maxRecDepth 20000 in
theorem gX10_tell_X10_noSimple : GoodIn wsX10_tell (wsV RX10 193 RX10 yX10_noSimple wsX10_noSimple) := goodIn_app (goodIn_of _ (by decide +kernel)) ggX10_tell_X10_noSimple
set_option maxRecDepth 20000 in
theorem ggX10_tell_X10_in : GoodIn wsX10_tell wsX10_in := goodIn_r _ [18] (by decide +kernel) (by decide +kernel)
set_option maxRecDepth 20000 in
theorem gX10_tell_X10_in : GoodIn wsX10_tell (va_wsS RX10 72 yX10_in wsX10_in) := goodIn_app (goodIn_of _ (by decide +kernel)) ggX10_tell_X10_in
theorem dX10_tell_0 : decode cX10_tell 0 = .ok (.aload_n 0, 1) := by decide +kernel
theorem dX10_tell_1 : decode cX10_tell 1 = .ok (.iconst 0, 1) := by decide +kernel
theorem dX10_tell_2 : decode cX10_tell 2 = .ok (.putfield 66, 3) := by decide +kernel
theorem dX10_tell_5 : decode cX10_tell 5 = .ok (.aload_n 0, 1) := by decide +kernel
theorem dX10_tell_6 : decode cX10_tell 6 = .ok (.iload_n 1, 1) := by decide +kernel
theorem dX10_tell_7 : decode cX10_tell 7 = .ok (.invokevirtual 193, 3) := by decide +kernel
theorem dX10_tell_10 : decode cX10_tell 10 = .ok (.ifCond .ne 15, 3) := by decide +kernel
theorem dX10_tell_13 : decode cX10_tell 13 = .ok (.iload_n 2, 1) := by decide +kernel
theorem dX10_tell_14 : decode cX10_tell 14 = .ok (.i2l, 1) := by decide +kernel
theorem dX10_tell_15 : decode cX10_tell 15 = .ok (.lconst 0, 1) := by decide +kernel
theorem dX10_tell_16 : decode cX10_tell 16 = .ok (.ldc2_w 120, 3) := by decide +kernel
theorem dX10_tell_19 : decode cX10_tell 19 = .ok (.invokestatic 72, 3) := by decide +kernel
theorem dX10_tell_22 : decode cX10_tell 22 = .ok (.ifCond .ne 6, 3) := by decide +kernel
theorem dX10_tell_25 : decode cX10_tell 25 = .ok (.bipush (-2), 2) := by decide +kernel
theorem dX10_tell_27 : decode cX10_tell 27 = .ok (.ireturn, 1) := by decide +kernel
theorem dX10_tell_28 : decode cX10_tell 28 = .ok (.aload_n 0, 1) := by decide +kernel
theorem dX10_tell_29 : decode cX10_tell 29 = .ok (.getfield 136, 3) := by decide +kernel
theorem dX10_tell_32 : decode cX10_tell 32 = .ok (.bipush 6, 2) := by decide +kernel
theorem dX10_tell_34 : decode cX10_tell 34 = .ok (.if_icmp .ne 6, 3) := by decide +kernel
theorem dX10_tell_37 : decode cX10_tell 37 = .ok (.bipush (-4), 2) := by decide +kernel
theorem dX10_tell_39 : decode cX10_tell 39 = .ok (.ireturn, 1) := by decide +kernel
theorem dX10_tell_40 : decode cX10_tell 40 = .ok (.aload_n 0, 1) := by decide +kernel
theorem dX10_tell_41 : decode cX10_tell 41 = .ok (.getfield 33, 3) := by decide +kernel
theorem dX10_tell_44 : decode cX10_tell 44 = .ok (.aload_n 0, 1) := by decide +kernel
theorem dX10_tell_45 : decode cX10_tell 45 = .ok (.getfield 136, 3) := by decide +kernel
theorem dX10_tell_48 : decode cX10_tell 48 = .ok (.iload_n 1, 1) := by decide +kernel
theorem dX10_tell_49 : decode cX10_tell 49 = .ok (.iastore, 1) := by decide +kernel
theorem dX10_tell_50 : decode cX10_tell 50 = .ok (.aload_n 0, 1) := by decide +kernel
theorem dX10_tell_51 : decode cX10_tell 51 = .ok (.getfield 36, 3) := by decide +kernel
theorem dX10_tell_54 : decode cX10_tell 54 = .ok (.aload_n 0, 1) := by decide +kernel
theorem dX10_tell_55 : decode cX10_tell 55 = .ok (.getfield 136, 3) := by decide +kernel
theorem dX10_tell_58 : decode cX10_tell 58 = .ok (.iload_n 2, 1) := by decide +kernel
theorem dX10_tell_59 : decode cX10_tell 59 = .ok (.iastore, 1) := by decide +kernel
theorem dX10_tell_60 : decode cX10_tell 60 = .ok (.aload_n 0, 1) := by decide +kernel
theorem dX10_tell_61 : decode cX10_tell 61 = .ok (.getfield 39, 3) := by decide +kernel
theorem dX10_tell_64 : decode cX10_tell 64 = .ok (.aload_n 0, 1) := by decide +kernel
theorem dX10_tell_65 : decode cX10_tell 65 = .ok (.getfield 136, 3) := by decide +kernel
theorem dX10_tell_68 : decode cX10_tell 68 = .ok (.iload_n 3, 1) := by decide +kernel
theorem dX10_tell_69 : decode cX10_tell 69 = .ok (.bastore, 1) := by decide +kernel
theorem dX10_tell_70 : decode cX10_tell 70 = .ok (.aload_n 0, 1) := by decide +kernel
theorem dX10_tell_71 : decode cX10_tell 71 = .ok (.dup, 1) := by decide +kernel
theorem dX10_tell_72 : decode cX10_tell 72 = .ok (.getfield 136, 3) := by decide +kernel
theorem dX10_tell_75 : decode cX10_tell 75 = .ok (.iconst 1, 1) := by decide +kernel
theorem dX10_tell_76 : decode cX10_tell 76 = .ok (.iadd, 1) := by decide +kernel
theorem dX10_tell_77 : decode cX10_tell 77 = .ok (.putfield 136, 3) := by decide +kernel
theorem dX10_tell_80 : decode cX10_tell 80 = .ok (.aload_n 0, 1) := by decide +kernel
theorem dX10_tell_81 : decode cX10_tell 81 = .ok (.getfield 136, 3) := by decide +kernel
theorem dX10_tell_84 : decode cX10_tell 84 = .ok (.ireturn, 1) := by decide +kernel
theorem dX10_untell_0 : decode cX10_untell 0 = .ok (.aload_n 0, 1) := by decide +kernel
theorem dX10_untell_1 : decode cX10_untell 1 = .ok (.iconst 0, 1) := by decide +kernel
theorem dX10_untell_2 : decode cX10_untell 2 = .ok (.putfield 66, 3) := by decide +kernel
theorem dX10_untell_5 : decode cX10_untell 5 = .ok (.aload_n 0, 1) := by decide +kernel
theorem dX10_untell_6 : decode cX10_untell 6 = .ok (.getfield 136, 3) := by decide +kernel
theorem dX10_untell_9 : decode cX10_untell 9 = .ok (.istore_n 1, 1) := by decide +kernel
theorem dX10_untell_10 : decode cX10_untell 10 = .ok (.aload_n 0, 1) := by decide +kernel
theorem dX10_untell_11 : decode cX10_untell 11 = .ok (.iconst 0, 1) := by decide +kernel
theorem dX10_untell_12 : decode cX10_untell 12 = .ok (.putfield 136, 3) := by decide +kernel
theorem dX10_untell_15 : decode cX10_untell 15 = .ok (.iload_n 1, 1) := by decide +kernel
theorem dX10_untell_16 : decode cX10_untell 16 = .ok (.ireturn, 1) := by decide +kernel
set_option maxRecDepth 20000 in
theorem ggX10_march_X10_in : GoodIn wsX10_march wsX10_in := goodIn_r _ [13] (by decide +kernel) (by decide +kernel)
set_option maxRecDepth 20000 in
theorem gX10_march_X10_in : GoodIn wsX10_march (va_wsS RX10 72 yX10_in wsX10_in) := goodIn_app (goodIn_of _ (by decide +kernel)) ggX10_march_X10_in
set_option maxRecDepth 20000 in
theorem ggX10_march_X10_agreed : GoodIn wsX10_march wsX10_agreed := goodIn_r _ [17, 9, 18, 19, 70, 71, 72, 73, 74, 75, 76, 77, 78, 79, 80, 81, 82, 83, 84, 85, 86, 87, 88, 89, 90, 91, 92, 93, 94, 95, 96, 97, 98, 99, 100] (by decide +kernel) (by decide +kernel)
set_option maxRecDepth 20000 in
theorem gX10_march_X10_agreed : GoodIn wsX10_march (wsV RX10 111 RX10 yX10_agreed wsX10_agreed) := goodIn_app (goodIn_of _ (by decide +kernel)) ggX10_march_X10_agreed
set_option maxRecDepth 20000 in
theorem ggX10_march_X10_noSimple : GoodIn wsX10_march wsX10_noSimple := goodIn_r _ [23, 24, 9, 25, 26, 10, 11, 12, 13, 70, 71, 72, 73, 74, 75, 76, 77, 78, 79, 80, 81, 82, 83, 84, 85, 86, 87, 88, 89, 90, 91, 92, 93, 94, 95, 96, 97, 98, 99, 100] (by decide +kernel) (by decide +kernel)
set_option maxRecDepth 20000 in
theorem gX10_march_X10_noSimple : GoodIn wsX10_march (wsV RX10 193 RX10 yX10_noSimple wsX10_noSimple) := goodIn_app (goodIn_of _ (by decide +kernel)) ggX10_march_X10_noSimple
set_option maxRecDepth 20000 in
theorem ggX10_march_X10_part : GoodIn wsX10_march wsX10_part := goodIn_r _ [30, 9, 31, 32, 33, 34, 12, 35, 36, 37, 38, 39, 40, 41, 42, 43, 44, 45, 46, 47, 48, 49, 50, 51, 10, 11, 13, 52, 53, 54, 55, 70, 71, 72, 73, 74, 75, 76, 77, 78, 79, 80, 81, 82, 83, 84, 85, 86, 87, 88, 89, 90, 91, 92, 93, 94, 95, 96, 97, 98, 99, 100] (by decide +kernel) (by decide +kernel)
set_option maxRecDepth 20000 in
theorem gX10_march_X10_part : GoodIn wsX10_march (wsV RX10 175 RX10 yX10_part wsX10_part) := goodIn_app (goodIn_of _ (by decide +kernel)) ggX10_march_X10_part
set_option maxRecDepth 20000 in
theorem ggX10_march_X10_knownMany : GoodIn wsX10_march wsX10_knownMany := goodIn_r _ [58, 59, 60, 12, 61] (by decide +kernel) (by decide +kernel)
set_option maxRecDepth 20000 in
theorem gX10_march_X10_knownMany : GoodIn wsX10_march (va_wsS RX10 132 yX10_knownMany wsX10_knownMany) := goodIn_app (goodIn_of _ (by decide +kernel)) ggX10_march_X10_knownMany
set_option maxRecDepth 20000 in
theorem ggX10_march_X10_daysOf : GoodIn wsX10_march wsX10_daysOf := goodIn_r _ [64] (by decide +kernel) (by decide +kernel)
set_option maxRecDepth 20000 in
theorem gX10_march_X10_daysOf : GoodIn wsX10_march (va_wsS RX10 139 yX10_daysOf wsX10_daysOf) := goodIn_app (goodIn_of _ (by decide +kernel)) ggX10_march_X10_daysOf
set_option maxRecDepth 20000 in
theorem ggX10_march_X10_tellsFact : GoodIn wsX10_march wsX10_tellsFact := goodIn_r _ [68, 69, 70, 71, 72, 73, 74, 75, 76, 77, 78, 79, 80, 81, 82, 83, 84, 85, 86, 87, 88, 89, 90, 91, 92, 93, 94, 95, 96, 97, 98, 99, 100] (by decide +kernel) (by decide +kernel)
set_option maxRecDepth 20000 in
theorem gX10_march_X10_tellsFact : GoodIn wsX10_march (wsV RX10 142 RX10 yX10_tellsFact wsX10_tellsFact) := goodIn_app (goodIn_of _ (by decide +kernel)) ggX10_march_X10_tellsFact
theorem dX10_march_0 : decode cX10_march 0 = .ok (.aload_n 0, 1) := by decide +kernel
theorem dX10_march_1 : decode cX10_march 1 = .ok (.iconst 0, 1) := by decide +kernel
theorem dX10_march_2 : decode cX10_march 2 = .ok (.putfield 66, 3) := by decide +kernel
theorem dX10_march_5 : decode cX10_march 5 = .ok (.iload_n 1, 1) := by decide +kernel
theorem dX10_march_6 : decode cX10_march 6 = .ok (.i2l, 1) := by decide +kernel
theorem dX10_march_7 : decode cX10_march 7 = .ok (.lconst 0, 1) := by decide +kernel
theorem dX10_march_8 : decode cX10_march 8 = .ok (.ldc2_w 218, 3) := by decide +kernel
theorem dX10_march_11 : decode cX10_march 11 = .ok (.invokestatic 72, 3) := by decide +kernel
theorem dX10_march_14 : decode cX10_march 14 = .ok (.ifCond .ne 6, 3) := by decide +kernel
theorem dX10_march_17 : decode cX10_march 17 = .ok (.bipush (-2), 2) := by decide +kernel
theorem dX10_march_19 : decode cX10_march 19 = .ok (.ireturn, 1) := by decide +kernel
theorem dX10_march_20 : decode cX10_march 20 = .ok (.iconst 0, 1) := by decide +kernel
theorem dX10_march_21 : decode cX10_march 21 = .ok (.istore_n 2, 1) := by decide +kernel
theorem dX10_march_22 : decode cX10_march 22 = .ok (.iload_n 2, 1) := by decide +kernel
theorem dX10_march_23 : decode cX10_march 23 = .ok (.bipush 7, 2) := by decide +kernel
theorem dX10_march_25 : decode cX10_march 25 = .ok (.if_icmp .ge 19, 3) := by decide +kernel
theorem dX10_march_28 : decode cX10_march 28 = .ok (.aload_n 0, 1) := by decide +kernel
theorem dX10_march_29 : decode cX10_march 29 = .ok (.getfield 54, 3) := by decide +kernel
theorem dX10_march_32 : decode cX10_march 32 = .ok (.iload_n 2, 1) := by decide +kernel
theorem dX10_march_33 : decode cX10_march 33 = .ok (.aload_n 0, 1) := by decide +kernel
theorem dX10_march_34 : decode cX10_march 34 = .ok (.invokevirtual 111, 3) := by decide +kernel
theorem dX10_march_37 : decode cX10_march 37 = .ok (.iastore, 1) := by decide +kernel
theorem dX10_march_38 : decode cX10_march 38 = .ok (.iinc 2 1, 3) := by decide +kernel
theorem dX10_march_41 : decode cX10_march 41 = .ok (.goto (-19), 3) := by decide +kernel
theorem dX10_march_44 : decode cX10_march 44 = .ok (.iconst 0, 1) := by decide +kernel
theorem dX10_march_45 : decode cX10_march 45 = .ok (.istore_n 2, 1) := by decide +kernel
theorem dX10_march_46 : decode cX10_march 46 = .ok (.iload_n 2, 1) := by decide +kernel
theorem dX10_march_47 : decode cX10_march 47 = .ok (.aload_n 0, 1) := by decide +kernel
theorem dX10_march_48 : decode cX10_march 48 = .ok (.getfield 136, 3) := by decide +kernel
theorem dX10_march_51 : decode cX10_march 51 = .ok (.if_icmp .ge 86, 3) := by decide +kernel
theorem dX10_march_54 : decode cX10_march 54 = .ok (.aload_n 0, 1) := by decide +kernel
theorem dX10_march_55 : decode cX10_march 55 = .ok (.aload_n 0, 1) := by decide +kernel
theorem dX10_march_56 : decode cX10_march 56 = .ok (.getfield 33, 3) := by decide +kernel
theorem dX10_march_59 : decode cX10_march 59 = .ok (.iload_n 2, 1) := by decide +kernel
theorem dX10_march_60 : decode cX10_march 60 = .ok (.iaload, 1) := by decide +kernel
theorem dX10_march_61 : decode cX10_march 61 = .ok (.invokevirtual 193, 3) := by decide +kernel
theorem dX10_march_64 : decode cX10_march 64 = .ok (.ifCond .ne 67, 3) := by decide +kernel
theorem dX10_march_67 : decode cX10_march 67 = .ok (.aload_n 0, 1) := by decide +kernel
theorem dX10_march_68 : decode cX10_march 68 = .ok (.aload_n 0, 1) := by decide +kernel
theorem dX10_march_69 : decode cX10_march 69 = .ok (.getfield 54, 3) := by decide +kernel
theorem dX10_march_72 : decode cX10_march 72 = .ok (.aload_n 0, 1) := by decide +kernel
theorem dX10_march_73 : decode cX10_march 73 = .ok (.getfield 33, 3) := by decide +kernel
theorem dX10_march_76 : decode cX10_march 76 = .ok (.iload_n 2, 1) := by decide +kernel
theorem dX10_march_77 : decode cX10_march 77 = .ok (.iaload, 1) := by decide +kernel
theorem dX10_march_78 : decode cX10_march 78 = .ok (.aload_n 0, 1) := by decide +kernel
theorem dX10_march_79 : decode cX10_march 79 = .ok (.getfield 36, 3) := by decide +kernel
theorem dX10_march_82 : decode cX10_march 82 = .ok (.iload_n 2, 1) := by decide +kernel
theorem dX10_march_83 : decode cX10_march 83 = .ok (.iaload, 1) := by decide +kernel
theorem dX10_march_84 : decode cX10_march 84 = .ok (.aload_n 0, 1) := by decide +kernel
theorem dX10_march_85 : decode cX10_march 85 = .ok (.getfield 39, 3) := by decide +kernel
theorem dX10_march_88 : decode cX10_march 88 = .ok (.iload_n 2, 1) := by decide +kernel
theorem dX10_march_89 : decode cX10_march 89 = .ok (.baload, 1) := by decide +kernel
theorem dX10_march_90 : decode cX10_march 90 = .ok (.ifCond .eq 7, 3) := by decide +kernel
theorem dX10_march_93 : decode cX10_march 93 = .ok (.iconst 1, 1) := by decide +kernel
theorem dX10_march_94 : decode cX10_march 94 = .ok (.goto 4, 3) := by decide +kernel
theorem dX10_march_97 : decode cX10_march 97 = .ok (.iconst 0, 1) := by decide +kernel
theorem dX10_march_98 : decode cX10_march 98 = .ok (.aload_n 0, 1) := by decide +kernel
theorem dX10_march_99 : decode cX10_march 99 = .ok (.getfield 57, 3) := by decide +kernel
theorem dX10_march_102 : decode cX10_march 102 = .ok (.invokevirtual 175, 3) := by decide +kernel
theorem dX10_march_105 : decode cX10_march 105 = .ok (.iconst 0, 1) := by decide +kernel
theorem dX10_march_106 : decode cX10_march 106 = .ok (.istore_n 3, 1) := by decide +kernel
theorem dX10_march_107 : decode cX10_march 107 = .ok (.iload_n 3, 1) := by decide +kernel
theorem dX10_march_108 : decode cX10_march 108 = .ok (.bipush 7, 2) := by decide +kernel
theorem dX10_march_110 : decode cX10_march 110 = .ok (.if_icmp .ge 21, 3) := by decide +kernel
theorem dX10_march_113 : decode cX10_march 113 = .ok (.aload_n 0, 1) := by decide +kernel
theorem dX10_march_114 : decode cX10_march 114 = .ok (.getfield 54, 3) := by decide +kernel
theorem dX10_march_117 : decode cX10_march 117 = .ok (.iload_n 3, 1) := by decide +kernel
theorem dX10_march_118 : decode cX10_march 118 = .ok (.aload_n 0, 1) := by decide +kernel
theorem dX10_march_119 : decode cX10_march 119 = .ok (.getfield 57, 3) := by decide +kernel
theorem dX10_march_122 : decode cX10_march 122 = .ok (.iload_n 3, 1) := by decide +kernel
theorem dX10_march_123 : decode cX10_march 123 = .ok (.iaload, 1) := by decide +kernel
theorem dX10_march_124 : decode cX10_march 124 = .ok (.iastore, 1) := by decide +kernel
theorem dX10_march_125 : decode cX10_march 125 = .ok (.iinc 3 1, 3) := by decide +kernel
theorem dX10_march_128 : decode cX10_march 128 = .ok (.goto (-21), 3) := by decide +kernel
theorem dX10_march_131 : decode cX10_march 131 = .ok (.iinc 2 1, 3) := by decide +kernel
theorem dX10_march_134 : decode cX10_march 134 = .ok (.goto (-88), 3) := by decide +kernel
theorem dX10_march_137 : decode cX10_march 137 = .ok (.aload_n 0, 1) := by decide +kernel
theorem dX10_march_138 : decode cX10_march 138 = .ok (.getfield 54, 3) := by decide +kernel
theorem dX10_march_141 : decode cX10_march 141 = .ok (.invokestatic 132, 3) := by decide +kernel
theorem dX10_march_144 : decode cX10_march 144 = .ok (.istore_n 2, 1) := by decide +kernel
theorem dX10_march_145 : decode cX10_march 145 = .ok (.iload_n 1, 1) := by decide +kernel
theorem dX10_march_146 : decode cX10_march 146 = .ok (.iconst 2, 1) := by decide +kernel
theorem dX10_march_147 : decode cX10_march 147 = .ok (.if_icmp .ge 19, 3) := by decide +kernel
theorem dX10_march_150 : decode cX10_march 150 = .ok (.iload_n 1, 1) := by decide +kernel
theorem dX10_march_151 : decode cX10_march 151 = .ok (.ifCond .ne 7, 3) := by decide +kernel
theorem dX10_march_154 : decode cX10_march 154 = .ok (.iload_n 2, 1) := by decide +kernel
theorem dX10_march_155 : decode cX10_march 155 = .ok (.goto 10, 3) := by decide +kernel
theorem dX10_march_158 : decode cX10_march 158 = .ok (.aload_n 0, 1) := by decide +kernel
theorem dX10_march_159 : decode cX10_march 159 = .ok (.getfield 54, 3) := by decide +kernel
theorem dX10_march_162 : decode cX10_march 162 = .ok (.invokestatic 139, 3) := by decide +kernel
theorem dX10_march_165 : decode cX10_march 165 = .ok (.ireturn, 1) := by decide +kernel
theorem dX10_march_166 : decode cX10_march 166 = .ok (.iconst 0, 1) := by decide +kernel
theorem dX10_march_167 : decode cX10_march 167 = .ok (.istore_n 3, 1) := by decide +kernel
theorem dX10_march_168 : decode cX10_march 168 = .ok (.iconst 0, 1) := by decide +kernel
theorem dX10_march_169 : decode cX10_march 169 = .ok (.istore 4, 2) := by decide +kernel
theorem dX10_march_171 : decode cX10_march 171 = .ok (.iload 4, 2) := by decide +kernel
theorem dX10_march_173 : decode cX10_march 173 = .ok (.aload_n 0, 1) := by decide +kernel
theorem dX10_march_174 : decode cX10_march 174 = .ok (.getfield 102, 3) := by decide +kernel
theorem dX10_march_177 : decode cX10_march 177 = .ok (.if_icmp .ge 43, 3) := by decide +kernel
theorem dX10_march_180 : decode cX10_march 180 = .ok (.iload_n 3, 1) := by decide +kernel
theorem dX10_march_181 : decode cX10_march 181 = .ok (.aload_n 0, 1) := by decide +kernel
theorem dX10_march_182 : decode cX10_march 182 = .ok (.aload_n 0, 1) := by decide +kernel
theorem dX10_march_183 : decode cX10_march 183 = .ok (.getfield 54, 3) := by decide +kernel
theorem dX10_march_186 : decode cX10_march 186 = .ok (.iload 4, 2) := by decide +kernel
theorem dX10_march_188 : decode cX10_march 188 = .ok (.invokevirtual 142, 3) := by decide +kernel
theorem dX10_march_191 : decode cX10_march 191 = .ok (.iload_n 1, 1) := by decide +kernel
theorem dX10_march_192 : decode cX10_march 192 = .ok (.iconst 2, 1) := by decide +kernel
theorem dX10_march_193 : decode cX10_march 193 = .ok (.if_icmp .ne 7, 3) := by decide +kernel
theorem dX10_march_196 : decode cX10_march 196 = .ok (.iconst 1, 1) := by decide +kernel
theorem dX10_march_197 : decode cX10_march 197 = .ok (.goto 4, 3) := by decide +kernel
theorem dX10_march_200 : decode cX10_march 200 = .ok (.iconst 0, 1) := by decide +kernel
theorem dX10_march_201 : decode cX10_march 201 = .ok (.if_icmp .ne 10, 3) := by decide +kernel
theorem dX10_march_204 : decode cX10_march 204 = .ok (.iconst 1, 1) := by decide +kernel
theorem dX10_march_205 : decode cX10_march 205 = .ok (.iload 4, 2) := by decide +kernel
theorem dX10_march_207 : decode cX10_march 207 = .ok (.ishl, 1) := by decide +kernel
theorem dX10_march_208 : decode cX10_march 208 = .ok (.goto 4, 3) := by decide +kernel
theorem dX10_march_211 : decode cX10_march 211 = .ok (.iconst 0, 1) := by decide +kernel
theorem dX10_march_212 : decode cX10_march 212 = .ok (.ior, 1) := by decide +kernel
theorem dX10_march_213 : decode cX10_march 213 = .ok (.istore_n 3, 1) := by decide +kernel
theorem dX10_march_214 : decode cX10_march 214 = .ok (.iinc 4 1, 3) := by decide +kernel
theorem dX10_march_217 : decode cX10_march 217 = .ok (.goto (-46), 3) := by decide +kernel
theorem dX10_march_220 : decode cX10_march 220 = .ok (.iload_n 2, 1) := by decide +kernel
theorem dX10_march_221 : decode cX10_march 221 = .ok (.ifCond .ne 8, 3) := by decide +kernel
theorem dX10_march_224 : decode cX10_march 224 = .ok (.bipush (-9), 2) := by decide +kernel
theorem dX10_march_226 : decode cX10_march 226 = .ok (.goto 4, 3) := by decide +kernel
theorem dX10_march_229 : decode cX10_march 229 = .ok (.iload_n 3, 1) := by decide +kernel
theorem dX10_march_230 : decode cX10_march 230 = .ok (.ireturn, 1) := by decide +kernel
theorem dX10_divisor_0 : decode cX10_divisor 0 = .ok (.iload_n 0, 1) := by decide +kernel
theorem dX10_divisor_1 : decode cX10_divisor 1 = .ok (.istore_n 2, 1) := by decide +kernel
theorem dX10_divisor_2 : decode cX10_divisor 2 = .ok (.iload_n 1, 1) := by decide +kernel
theorem dX10_divisor_3 : decode cX10_divisor 3 = .ok (.istore_n 3, 1) := by decide +kernel
theorem dX10_divisor_4 : decode cX10_divisor 4 = .ok (.iload_n 3, 1) := by decide +kernel
theorem dX10_divisor_5 : decode cX10_divisor 5 = .ok (.ifCond .eq 16, 3) := by decide +kernel
theorem dX10_divisor_8 : decode cX10_divisor 8 = .ok (.iload_n 2, 1) := by decide +kernel
theorem dX10_divisor_9 : decode cX10_divisor 9 = .ok (.iload_n 3, 1) := by decide +kernel
theorem dX10_divisor_10 : decode cX10_divisor 10 = .ok (.irem, 1) := by decide +kernel
theorem dX10_divisor_11 : decode cX10_divisor 11 = .ok (.istore 4, 2) := by decide +kernel
theorem dX10_divisor_13 : decode cX10_divisor 13 = .ok (.iload_n 3, 1) := by decide +kernel
theorem dX10_divisor_14 : decode cX10_divisor 14 = .ok (.istore_n 2, 1) := by decide +kernel
theorem dX10_divisor_15 : decode cX10_divisor 15 = .ok (.iload 4, 2) := by decide +kernel
theorem dX10_divisor_17 : decode cX10_divisor 17 = .ok (.istore_n 3, 1) := by decide +kernel
theorem dX10_divisor_18 : decode cX10_divisor 18 = .ok (.goto (-14), 3) := by decide +kernel
theorem dX10_divisor_21 : decode cX10_divisor 21 = .ok (.iload_n 2, 1) := by decide +kernel
theorem dX10_divisor_22 : decode cX10_divisor 22 = .ok (.ireturn, 1) := by decide +kernel
set_option maxRecDepth 20000 in
theorem ggX10_likely_X10_noSimple : GoodIn wsX10_likely wsX10_noSimple := goodIn_r _ [8, 9, 2, 10, 11, 12, 13, 7, 14, 27, 28, 29, 30, 31, 32, 33, 34, 35, 36, 37, 38, 39, 40, 41, 42, 43, 44, 45, 46, 47, 48, 49, 50, 51, 52, 53, 54, 55, 56, 57] (by decide +kernel) (by decide +kernel)
set_option maxRecDepth 20000 in
theorem gX10_likely_X10_noSimple : GoodIn wsX10_likely (wsV RX10 193 RX10 yX10_noSimple wsX10_noSimple) := goodIn_app (goodIn_of _ (by decide +kernel)) ggX10_likely_X10_noSimple
set_option maxRecDepth 20000 in
theorem ggX10_likely_X10_has : GoodIn wsX10_likely wsX10_has := goodIn_r _ [17] (by decide +kernel) (by decide +kernel)
set_option maxRecDepth 20000 in
theorem gX10_likely_X10_has : GoodIn wsX10_likely (va_wsS RX10 146 yX10_has wsX10_has) := goodIn_app (goodIn_of _ (by decide +kernel)) ggX10_likely_X10_has
set_option maxRecDepth 20000 in
theorem ggX10_likely_X10_knownMany : GoodIn wsX10_likely wsX10_knownMany := goodIn_r _ [20, 21, 22, 7, 23] (by decide +kernel) (by decide +kernel)
set_option maxRecDepth 20000 in
theorem gX10_likely_X10_knownMany : GoodIn wsX10_likely (va_wsS RX10 132 yX10_knownMany wsX10_knownMany) := goodIn_app (goodIn_of _ (by decide +kernel)) ggX10_likely_X10_knownMany
set_option maxRecDepth 20000 in
theorem ggX10_likely_X10_divisor : GoodIn wsX10_likely wsX10_divisor := goodIn_r _ [26] (by decide +kernel) (by decide +kernel)
set_option maxRecDepth 20000 in
theorem gX10_likely_X10_divisor : GoodIn wsX10_likely (va_wsS RX10 231 yX10_divisor wsX10_divisor) := goodIn_app (goodIn_of _ (by decide +kernel)) ggX10_likely_X10_divisor
theorem dX10_likely_0 : decode cX10_likely 0 = .ok (.aload_n 0, 1) := by decide +kernel
theorem dX10_likely_1 : decode cX10_likely 1 = .ok (.iconst 0, 1) := by decide +kernel
theorem dX10_likely_2 : decode cX10_likely 2 = .ok (.putfield 66, 3) := by decide +kernel
theorem dX10_likely_5 : decode cX10_likely 5 = .ok (.aload_n 0, 1) := by decide +kernel
theorem dX10_likely_6 : decode cX10_likely 6 = .ok (.iload_n 1, 1) := by decide +kernel
theorem dX10_likely_7 : decode cX10_likely 7 = .ok (.invokevirtual 193, 3) := by decide +kernel
theorem dX10_likely_10 : decode cX10_likely 10 = .ok (.ifCond .ne 14, 3) := by decide +kernel
theorem dX10_likely_13 : decode cX10_likely 13 = .ok (.iload_n 1, 1) := by decide +kernel
theorem dX10_likely_14 : decode cX10_likely 14 = .ok (.iconst 5, 1) := by decide +kernel
theorem dX10_likely_15 : decode cX10_likely 15 = .ok (.if_icmp .eq 9, 3) := by decide +kernel
theorem dX10_likely_18 : decode cX10_likely 18 = .ok (.iload_n 1, 1) := by decide +kernel
theorem dX10_likely_19 : decode cX10_likely 19 = .ok (.bipush 12, 2) := by decide +kernel
theorem dX10_likely_21 : decode cX10_likely 21 = .ok (.if_icmp .le 6, 3) := by decide +kernel
theorem dX10_likely_24 : decode cX10_likely 24 = .ok (.bipush (-2), 2) := by decide +kernel
theorem dX10_likely_26 : decode cX10_likely 26 = .ok (.ireturn, 1) := by decide +kernel
theorem dX10_likely_27 : decode cX10_likely 27 = .ok (.iconst 0, 1) := by decide +kernel
theorem dX10_likely_28 : decode cX10_likely 28 = .ok (.istore_n 3, 1) := by decide +kernel
theorem dX10_likely_29 : decode cX10_likely 29 = .ok (.iconst 0, 1) := by decide +kernel
theorem dX10_likely_30 : decode cX10_likely 30 = .ok (.istore 4, 2) := by decide +kernel
theorem dX10_likely_32 : decode cX10_likely 32 = .ok (.iload 4, 2) := by decide +kernel
theorem dX10_likely_34 : decode cX10_likely 34 = .ok (.bipush 7, 2) := by decide +kernel
theorem dX10_likely_36 : decode cX10_likely 36 = .ok (.if_icmp .ge 78, 3) := by decide +kernel
theorem dX10_likely_39 : decode cX10_likely 39 = .ok (.iconst 0, 1) := by decide +kernel
theorem dX10_likely_40 : decode cX10_likely 40 = .ok (.istore 5, 2) := by decide +kernel
theorem dX10_likely_42 : decode cX10_likely 42 = .ok (.iload 5, 2) := by decide +kernel
theorem dX10_likely_44 : decode cX10_likely 44 = .ok (.iconst 1, 1) := by decide +kernel
theorem dX10_likely_45 : decode cX10_likely 45 = .ok (.aload_n 0, 1) := by decide +kernel
theorem dX10_likely_46 : decode cX10_likely 46 = .ok (.getfield 102, 3) := by decide +kernel
theorem dX10_likely_49 : decode cX10_likely 49 = .ok (.ishl, 1) := by decide +kernel
theorem dX10_likely_50 : decode cX10_likely 50 = .ok (.if_icmp .ge 58, 3) := by decide +kernel
theorem dX10_likely_53 : decode cX10_likely 53 = .ok (.iload_n 3, 1) := by decide +kernel
theorem dX10_likely_54 : decode cX10_likely 54 = .ok (.aload_n 0, 1) := by decide +kernel
theorem dX10_likely_55 : decode cX10_likely 55 = .ok (.getfield 16, 3) := by decide +kernel
theorem dX10_likely_58 : decode cX10_likely 58 = .ok (.iload 4, 2) := by decide +kernel
theorem dX10_likely_60 : decode cX10_likely 60 = .ok (.iaload, 1) := by decide +kernel
theorem dX10_likely_61 : decode cX10_likely 61 = .ok (.iload 5, 2) := by decide +kernel
theorem dX10_likely_63 : decode cX10_likely 63 = .ok (.invokestatic 146, 3) := by decide +kernel
theorem dX10_likely_66 : decode cX10_likely 66 = .ok (.ifCond .eq 33, 3) := by decide +kernel
theorem dX10_likely_69 : decode cX10_likely 69 = .ok (.iload_n 1, 1) := by decide +kernel
theorem dX10_likely_70 : decode cX10_likely 70 = .ok (.iconst 5, 1) := by decide +kernel
theorem dX10_likely_71 : decode cX10_likely 71 = .ok (.if_icmp .ge 15, 3) := by decide +kernel
theorem dX10_likely_74 : decode cX10_likely 74 = .ok (.iload 5, 2) := by decide +kernel
theorem dX10_likely_76 : decode cX10_likely 76 = .ok (.iload_n 1, 1) := by decide +kernel
theorem dX10_likely_77 : decode cX10_likely 77 = .ok (.invokestatic 146, 3) := by decide +kernel
theorem dX10_likely_80 : decode cX10_likely 80 = .ok (.ifCond .eq 19, 3) := by decide +kernel
theorem dX10_likely_83 : decode cX10_likely 83 = .ok (.goto 12, 3) := by decide +kernel
theorem dX10_likely_86 : decode cX10_likely 86 = .ok (.iload 4, 2) := by decide +kernel
theorem dX10_likely_88 : decode cX10_likely 88 = .ok (.iload_n 1, 1) := by decide +kernel
theorem dX10_likely_89 : decode cX10_likely 89 = .ok (.bipush 6, 2) := by decide +kernel
theorem dX10_likely_91 : decode cX10_likely 91 = .ok (.isub, 1) := by decide +kernel
theorem dX10_likely_92 : decode cX10_likely 92 = .ok (.if_icmp .ne 7, 3) := by decide +kernel
theorem dX10_likely_95 : decode cX10_likely 95 = .ok (.iconst 1, 1) := by decide +kernel
theorem dX10_likely_96 : decode cX10_likely 96 = .ok (.goto 4, 3) := by decide +kernel
theorem dX10_likely_99 : decode cX10_likely 99 = .ok (.iconst 0, 1) := by decide +kernel
theorem dX10_likely_100 : decode cX10_likely 100 = .ok (.iadd, 1) := by decide +kernel
theorem dX10_likely_101 : decode cX10_likely 101 = .ok (.istore_n 3, 1) := by decide +kernel
theorem dX10_likely_102 : decode cX10_likely 102 = .ok (.iinc 5 1, 3) := by decide +kernel
theorem dX10_likely_105 : decode cX10_likely 105 = .ok (.goto (-63), 3) := by decide +kernel
theorem dX10_likely_108 : decode cX10_likely 108 = .ok (.iinc 4 1, 3) := by decide +kernel
theorem dX10_likely_111 : decode cX10_likely 111 = .ok (.goto (-79), 3) := by decide +kernel
theorem dX10_likely_114 : decode cX10_likely 114 = .ok (.iload_n 3, 1) := by decide +kernel
theorem dX10_likely_115 : decode cX10_likely 115 = .ok (.aload_n 0, 1) := by decide +kernel
theorem dX10_likely_116 : decode cX10_likely 116 = .ok (.getfield 16, 3) := by decide +kernel
theorem dX10_likely_119 : decode cX10_likely 119 = .ok (.invokestatic 132, 3) := by decide +kernel
theorem dX10_likely_122 : decode cX10_likely 122 = .ok (.invokestatic 231, 3) := by decide +kernel
theorem dX10_likely_125 : decode cX10_likely 125 = .ok (.istore 4, 2) := by decide +kernel
theorem dX10_likely_127 : decode cX10_likely 127 = .ok (.iload_n 2, 1) := by decide +kernel
theorem dX10_likely_128 : decode cX10_likely 128 = .ok (.ifCond .eq 10, 3) := by decide +kernel
theorem dX10_likely_131 : decode cX10_likely 131 = .ok (.iload_n 3, 1) := by decide +kernel
theorem dX10_likely_132 : decode cX10_likely 132 = .ok (.iload 4, 2) := by decide +kernel
theorem dX10_likely_134 : decode cX10_likely 134 = .ok (.idiv, 1) := by decide +kernel
theorem dX10_likely_135 : decode cX10_likely 135 = .ok (.goto 13, 3) := by decide +kernel
theorem dX10_likely_138 : decode cX10_likely 138 = .ok (.aload_n 0, 1) := by decide +kernel
theorem dX10_likely_139 : decode cX10_likely 139 = .ok (.getfield 16, 3) := by decide +kernel
theorem dX10_likely_142 : decode cX10_likely 142 = .ok (.invokestatic 132, 3) := by decide +kernel
theorem dX10_likely_145 : decode cX10_likely 145 = .ok (.iload 4, 2) := by decide +kernel
theorem dX10_likely_147 : decode cX10_likely 147 = .ok (.idiv, 1) := by decide +kernel
theorem dX10_likely_148 : decode cX10_likely 148 = .ok (.ireturn, 1) := by decide +kernel
theorem dX10_seed_0 : decode cX10_seed 0 = .ok (.aload_n 0, 1) := by decide +kernel
theorem dX10_seed_1 : decode cX10_seed 1 = .ok (.iconst 0, 1) := by decide +kernel
theorem dX10_seed_2 : decode cX10_seed 2 = .ok (.putfield 66, 3) := by decide +kernel
theorem dX10_seed_5 : decode cX10_seed 5 = .ok (.aload_n 0, 1) := by decide +kernel
theorem dX10_seed_6 : decode cX10_seed 6 = .ok (.getfield 168, 3) := by decide +kernel
theorem dX10_seed_9 : decode cX10_seed 9 = .ok (.lstore_n 3, 1) := by decide +kernel
theorem dX10_seed_10 : decode cX10_seed 10 = .ok (.aload_n 0, 1) := by decide +kernel
theorem dX10_seed_11 : decode cX10_seed 11 = .ok (.lload_n 1, 1) := by decide +kernel
theorem dX10_seed_12 : decode cX10_seed 12 = .ok (.putfield 168, 3) := by decide +kernel
theorem dX10_seed_15 : decode cX10_seed 15 = .ok (.lload_n 3, 1) := by decide +kernel
theorem dX10_seed_16 : decode cX10_seed 16 = .ok (.lreturn, 1) := by decide +kernel
set_option maxRecDepth 20000 in
theorem ggX10_year_X10_in : GoodIn wsX10_year wsX10_in := goodIn_r _ [8] (by decide +kernel) (by decide +kernel)
set_option maxRecDepth 20000 in
theorem gX10_year_X10_in : GoodIn wsX10_year (va_wsS RX10 72 yX10_in wsX10_in) := goodIn_app (goodIn_of _ (by decide +kernel)) ggX10_year_X10_in
set_option maxRecDepth 20000 in
theorem ggX10_year_X10_slipOf : GoodIn wsX10_year wsX10_slipOf := goodIn_r _ [12, 13, 14, 15, 16, 17, 7, 18, 19, 20, 5, 6, 8, 45, 46, 47, 48, 49, 50, 51, 52, 53, 54, 55, 56, 57, 58, 59, 60, 61, 62, 63, 64, 65, 66, 67, 68, 69, 70, 71, 72, 73, 74, 75] (by decide +kernel) (by decide +kernel)
set_option maxRecDepth 20000 in
theorem gX10_year_X10_slipOf : GoodIn wsX10_year (wsV RX10 126 RX10 yX10_slipOf wsX10_slipOf) := goodIn_app (goodIn_of _ (by decide +kernel)) ggX10_year_X10_slipOf
set_option maxRecDepth 20000 in
theorem ggX10_year_X10_drawDay : GoodIn wsX10_year wsX10_drawDay := goodIn_r _ [24, 25, 26, 27, 28, 45, 46, 47, 48, 49, 50, 51, 52, 53, 54, 55, 56, 57, 58, 59, 60, 61, 62, 63, 64, 65, 66, 67, 68, 69, 70, 71, 72, 73, 74, 75] (by decide +kernel) (by decide +kernel)
set_option maxRecDepth 20000 in
theorem gX10_year_X10_drawDay : GoodIn wsX10_year (wsV RX10 185 RX10 yX10_drawDay wsX10_drawDay) := goodIn_app (goodIn_of _ (by decide +kernel)) ggX10_year_X10_drawDay
set_option maxRecDepth 20000 in
theorem ggX10_year_X10_answerOf : GoodIn wsX10_year wsX10_answerOf := goodIn_r _ [32, 33, 34, 35, 7, 36, 13, 14, 37, 15, 16, 17, 18, 19, 20, 5, 6, 8, 38, 39, 40, 41, 42, 43, 44, 45, 46, 47, 48, 49, 50, 51, 52, 53, 54, 55, 56, 57, 58, 59, 60, 61, 62, 63, 64, 65, 66, 67, 68, 69, 70, 71, 72, 73, 74, 75] (by decide +kernel) (by decide +kernel)
set_option maxRecDepth 20000 in
theorem gX10_year_X10_answerOf : GoodIn wsX10_year (wsV RX10 158 RX10 yX10_answerOf wsX10_answerOf) := goodIn_app (goodIn_of _ (by decide +kernel)) ggX10_year_X10_answerOf
theorem dX10_year_0 : decode cX10_year 0 = .ok (.aload_n 0, 1) := by decide +kernel
theorem dX10_year_1 : decode cX10_year 1 = .ok (.iconst 0, 1) := by decide +kernel
theorem dX10_year_2 : decode cX10_year 2 = .ok (.putfield 66, 3) := by decide +kernel
theorem dX10_year_5 : decode cX10_year 5 = .ok (.iload_n 1, 1) := by decide +kernel
theorem dX10_year_6 : decode cX10_year 6 = .ok (.i2l, 1) := by decide +kernel
theorem dX10_year_7 : decode cX10_year 7 = .ok (.lconst 1, 1) := by decide +kernel
theorem dX10_year_8 : decode cX10_year 8 = .ok (.ldc2_w 234, 3) := by decide +kernel
theorem dX10_year_11 : decode cX10_year 11 = .ok (.invokestatic 72, 3) := by decide +kernel
theorem dX10_year_14 : decode cX10_year 14 = .ok (.ifCond .ne 6, 3) := by decide +kernel
theorem dX10_year_17 : decode cX10_year 17 = .ok (.bipush (-2), 2) := by decide +kernel
theorem dX10_year_19 : decode cX10_year 19 = .ok (.ireturn, 1) := by decide +kernel
theorem dX10_year_20 : decode cX10_year 20 = .ok (.aload_n 0, 1) := by decide +kernel
theorem dX10_year_21 : decode cX10_year 21 = .ok (.invokevirtual 126, 3) := by decide +kernel
theorem dX10_year_24 : decode cX10_year 24 = .ok (.bipush (-9), 2) := by decide +kernel
theorem dX10_year_26 : decode cX10_year 26 = .ok (.if_icmp .eq 6, 3) := by decide +kernel
theorem dX10_year_29 : decode cX10_year 29 = .ok (.bipush (-3), 2) := by decide +kernel
theorem dX10_year_31 : decode cX10_year 31 = .ok (.ireturn, 1) := by decide +kernel
theorem dX10_year_32 : decode cX10_year 32 = .ok (.aload_n 0, 1) := by decide +kernel
theorem dX10_year_33 : decode cX10_year 33 = .ok (.getfield 16, 3) := by decide +kernel
theorem dX10_year_36 : decode cX10_year 36 = .ok (.bipush 7, 2) := by decide +kernel
theorem dX10_year_38 : decode cX10_year 38 = .ok (.iaload, 1) := by decide +kernel
theorem dX10_year_39 : decode cX10_year 39 = .ok (.istore_n 2, 1) := by decide +kernel
theorem dX10_year_40 : decode cX10_year 40 = .ok (.aload_n 0, 1) := by decide +kernel
theorem dX10_year_41 : decode cX10_year 41 = .ok (.getfield 16, 3) := by decide +kernel
theorem dX10_year_44 : decode cX10_year 44 = .ok (.bipush 8, 2) := by decide +kernel
theorem dX10_year_46 : decode cX10_year 46 = .ok (.iaload, 1) := by decide +kernel
theorem dX10_year_47 : decode cX10_year 47 = .ok (.istore_n 3, 1) := by decide +kernel
theorem dX10_year_48 : decode cX10_year 48 = .ok (.iconst 0, 1) := by decide +kernel
theorem dX10_year_49 : decode cX10_year 49 = .ok (.istore 4, 2) := by decide +kernel
theorem dX10_year_51 : decode cX10_year 51 = .ok (.iconst 0, 1) := by decide +kernel
theorem dX10_year_52 : decode cX10_year 52 = .ok (.istore 5, 2) := by decide +kernel
theorem dX10_year_54 : decode cX10_year 54 = .ok (.iload 5, 2) := by decide +kernel
theorem dX10_year_56 : decode cX10_year 56 = .ok (.iload_n 1, 1) := by decide +kernel
theorem dX10_year_57 : decode cX10_year 57 = .ok (.if_icmp .ge 52, 3) := by decide +kernel
theorem dX10_year_60 : decode cX10_year 60 = .ok (.iinc 2 1, 3) := by decide +kernel
theorem dX10_year_63 : decode cX10_year 63 = .ok (.iload_n 2, 1) := by decide +kernel
theorem dX10_year_64 : decode cX10_year 64 = .ok (.bipush 28, 2) := by decide +kernel
theorem dX10_year_66 : decode cX10_year 66 = .ok (.if_icmp .ne 10, 3) := by decide +kernel
theorem dX10_year_69 : decode cX10_year 69 = .ok (.iconst 0, 1) := by decide +kernel
theorem dX10_year_70 : decode cX10_year 70 = .ok (.istore_n 2, 1) := by decide +kernel
theorem dX10_year_71 : decode cX10_year 71 = .ok (.aload_n 0, 1) := by decide +kernel
theorem dX10_year_72 : decode cX10_year 72 = .ok (.invokevirtual 185, 3) := by decide +kernel
theorem dX10_year_75 : decode cX10_year 75 = .ok (.istore_n 3, 1) := by decide +kernel
theorem dX10_year_76 : decode cX10_year 76 = .ok (.iload 4, 2) := by decide +kernel
theorem dX10_year_78 : decode cX10_year 78 = .ok (.aload_n 0, 1) := by decide +kernel
theorem dX10_year_79 : decode cX10_year 79 = .ok (.bipush (-9), 2) := by decide +kernel
theorem dX10_year_81 : decode cX10_year 81 = .ok (.iload_n 2, 1) := by decide +kernel
theorem dX10_year_82 : decode cX10_year 82 = .ok (.iload_n 3, 1) := by decide +kernel
theorem dX10_year_83 : decode cX10_year 83 = .ok (.iload_n 3, 1) := by decide +kernel
theorem dX10_year_84 : decode cX10_year 84 = .ok (.aload_n 0, 1) := by decide +kernel
theorem dX10_year_85 : decode cX10_year 85 = .ok (.getfield 105, 3) := by decide +kernel
theorem dX10_year_88 : decode cX10_year 88 = .ok (.invokevirtual 158, 3) := by decide +kernel
theorem dX10_year_91 : decode cX10_year 91 = .ok (.iconst 1, 1) := by decide +kernel
theorem dX10_year_92 : decode cX10_year 92 = .ok (.if_icmp .ne 7, 3) := by decide +kernel
theorem dX10_year_95 : decode cX10_year 95 = .ok (.iconst 1, 1) := by decide +kernel
theorem dX10_year_96 : decode cX10_year 96 = .ok (.goto 4, 3) := by decide +kernel
theorem dX10_year_99 : decode cX10_year 99 = .ok (.iconst 0, 1) := by decide +kernel
theorem dX10_year_100 : decode cX10_year 100 = .ok (.iadd, 1) := by decide +kernel
theorem dX10_year_101 : decode cX10_year 101 = .ok (.istore 4, 2) := by decide +kernel
theorem dX10_year_103 : decode cX10_year 103 = .ok (.iinc 5 1, 3) := by decide +kernel
theorem dX10_year_106 : decode cX10_year 106 = .ok (.goto (-52), 3) := by decide +kernel
theorem dX10_year_109 : decode cX10_year 109 = .ok (.iload 4, 2) := by decide +kernel
theorem dX10_year_111 : decode cX10_year 111 = .ok (.ireturn, 1) := by decide +kernel
set_option maxRecDepth 20000 in
theorem ggX10_keep_X10_in : GoodIn wsX10_keep wsX10_in := goodIn_r _ [8] (by decide +kernel) (by decide +kernel)
set_option maxRecDepth 20000 in
theorem gX10_keep_X10_in : GoodIn wsX10_keep (va_wsS RX10 72 yX10_in wsX10_in) := goodIn_app (goodIn_of _ (by decide +kernel)) ggX10_keep_X10_in
set_option maxRecDepth 20000 in
theorem ggX10_keep_X10_knownMany : GoodIn wsX10_keep wsX10_knownMany := goodIn_r _ [11, 12, 13, 7, 14] (by decide +kernel) (by decide +kernel)
set_option maxRecDepth 20000 in
theorem gX10_keep_X10_knownMany : GoodIn wsX10_keep (va_wsS RX10 132 yX10_knownMany wsX10_knownMany) := goodIn_app (goodIn_of _ (by decide +kernel)) ggX10_keep_X10_knownMany
theorem dX10_keep_0 : decode cX10_keep 0 = .ok (.aload_n 0, 1) := by decide +kernel
theorem dX10_keep_1 : decode cX10_keep 1 = .ok (.iconst 0, 1) := by decide +kernel
theorem dX10_keep_2 : decode cX10_keep 2 = .ok (.putfield 66, 3) := by decide +kernel
theorem dX10_keep_5 : decode cX10_keep 5 = .ok (.iload_n 1, 1) := by decide +kernel
theorem dX10_keep_6 : decode cX10_keep 6 = .ok (.i2l, 1) := by decide +kernel
theorem dX10_keep_7 : decode cX10_keep 7 = .ok (.lconst 0, 1) := by decide +kernel
theorem dX10_keep_8 : decode cX10_keep 8 = .ok (.lconst 1, 1) := by decide +kernel
theorem dX10_keep_9 : decode cX10_keep 9 = .ok (.invokestatic 72, 3) := by decide +kernel
theorem dX10_keep_12 : decode cX10_keep 12 = .ok (.ifCond .ne 5, 3) := by decide +kernel
theorem dX10_keep_15 : decode cX10_keep 15 = .ok (.iconst (-1), 1) := by decide +kernel
theorem dX10_keep_16 : decode cX10_keep 16 = .ok (.ireturn, 1) := by decide +kernel
theorem dX10_keep_17 : decode cX10_keep 17 = .ok (.aload_n 0, 1) := by decide +kernel
theorem dX10_keep_18 : decode cX10_keep 18 = .ok (.getfield 29, 3) := by decide +kernel
theorem dX10_keep_21 : decode cX10_keep 21 = .ok (.iload_n 1, 1) := by decide +kernel
theorem dX10_keep_22 : decode cX10_keep 22 = .ok (.iconst 1, 1) := by decide +kernel
theorem dX10_keep_23 : decode cX10_keep 23 = .ok (.bastore, 1) := by decide +kernel
theorem dX10_keep_24 : decode cX10_keep 24 = .ok (.iconst 0, 1) := by decide +kernel
theorem dX10_keep_25 : decode cX10_keep 25 = .ok (.istore_n 2, 1) := by decide +kernel
theorem dX10_keep_26 : decode cX10_keep 26 = .ok (.iload_n 2, 1) := by decide +kernel
theorem dX10_keep_27 : decode cX10_keep 27 = .ok (.bipush 12, 2) := by decide +kernel
theorem dX10_keep_29 : decode cX10_keep 29 = .ok (.if_icmp .ge 26, 3) := by decide +kernel
theorem dX10_keep_32 : decode cX10_keep 32 = .ok (.aload_n 0, 1) := by decide +kernel
theorem dX10_keep_33 : decode cX10_keep 33 = .ok (.getfield 26, 3) := by decide +kernel
theorem dX10_keep_36 : decode cX10_keep 36 = .ok (.bipush 12, 2) := by decide +kernel
theorem dX10_keep_38 : decode cX10_keep 38 = .ok (.iload_n 1, 1) := by decide +kernel
theorem dX10_keep_39 : decode cX10_keep 39 = .ok (.imul, 1) := by decide +kernel
theorem dX10_keep_40 : decode cX10_keep 40 = .ok (.iload_n 2, 1) := by decide +kernel
theorem dX10_keep_41 : decode cX10_keep 41 = .ok (.iadd, 1) := by decide +kernel
theorem dX10_keep_42 : decode cX10_keep 42 = .ok (.aload_n 0, 1) := by decide +kernel
theorem dX10_keep_43 : decode cX10_keep 43 = .ok (.getfield 16, 3) := by decide +kernel
theorem dX10_keep_46 : decode cX10_keep 46 = .ok (.iload_n 2, 1) := by decide +kernel
theorem dX10_keep_47 : decode cX10_keep 47 = .ok (.iaload, 1) := by decide +kernel
theorem dX10_keep_48 : decode cX10_keep 48 = .ok (.iastore, 1) := by decide +kernel
theorem dX10_keep_49 : decode cX10_keep 49 = .ok (.iinc 2 1, 3) := by decide +kernel
theorem dX10_keep_52 : decode cX10_keep 52 = .ok (.goto (-26), 3) := by decide +kernel
theorem dX10_keep_55 : decode cX10_keep 55 = .ok (.aload_n 0, 1) := by decide +kernel
theorem dX10_keep_56 : decode cX10_keep 56 = .ok (.getfield 16, 3) := by decide +kernel
theorem dX10_keep_59 : decode cX10_keep 59 = .ok (.invokestatic 132, 3) := by decide +kernel
theorem dX10_keep_62 : decode cX10_keep 62 = .ok (.ireturn, 1) := by decide +kernel
set_option maxRecDepth 20000 in
theorem ggX10_again_X10_in : GoodIn wsX10_again wsX10_in := goodIn_r _ [9] (by decide +kernel) (by decide +kernel)
set_option maxRecDepth 20000 in
theorem gX10_again_X10_in : GoodIn wsX10_again (va_wsS RX10 72 yX10_in wsX10_in) := goodIn_app (goodIn_of _ (by decide +kernel)) ggX10_again_X10_in
set_option maxRecDepth 20000 in
theorem ggX10_again_X10_knownMany : GoodIn wsX10_again wsX10_knownMany := goodIn_r _ [12, 13, 14, 8, 15] (by decide +kernel) (by decide +kernel)
set_option maxRecDepth 20000 in
theorem gX10_again_X10_knownMany : GoodIn wsX10_again (va_wsS RX10 132 yX10_knownMany wsX10_knownMany) := goodIn_app (goodIn_of _ (by decide +kernel)) ggX10_again_X10_knownMany
theorem dX10_again_0 : decode cX10_again 0 = .ok (.aload_n 0, 1) := by decide +kernel
theorem dX10_again_1 : decode cX10_again 1 = .ok (.iconst 0, 1) := by decide +kernel
theorem dX10_again_2 : decode cX10_again 2 = .ok (.putfield 66, 3) := by decide +kernel
theorem dX10_again_5 : decode cX10_again 5 = .ok (.iload_n 1, 1) := by decide +kernel
theorem dX10_again_6 : decode cX10_again 6 = .ok (.i2l, 1) := by decide +kernel
theorem dX10_again_7 : decode cX10_again 7 = .ok (.lconst 0, 1) := by decide +kernel
theorem dX10_again_8 : decode cX10_again 8 = .ok (.lconst 1, 1) := by decide +kernel
theorem dX10_again_9 : decode cX10_again 9 = .ok (.invokestatic 72, 3) := by decide +kernel
theorem dX10_again_12 : decode cX10_again 12 = .ok (.ifCond .ne 5, 3) := by decide +kernel
theorem dX10_again_15 : decode cX10_again 15 = .ok (.iconst (-1), 1) := by decide +kernel
theorem dX10_again_16 : decode cX10_again 16 = .ok (.ireturn, 1) := by decide +kernel
theorem dX10_again_17 : decode cX10_again 17 = .ok (.aload_n 0, 1) := by decide +kernel
theorem dX10_again_18 : decode cX10_again 18 = .ok (.getfield 29, 3) := by decide +kernel
theorem dX10_again_21 : decode cX10_again 21 = .ok (.iload_n 1, 1) := by decide +kernel
theorem dX10_again_22 : decode cX10_again 22 = .ok (.baload, 1) := by decide +kernel
theorem dX10_again_23 : decode cX10_again 23 = .ok (.ifCond .ne 6, 3) := by decide +kernel
theorem dX10_again_26 : decode cX10_again 26 = .ok (.bipush (-3), 2) := by decide +kernel
theorem dX10_again_28 : decode cX10_again 28 = .ok (.ireturn, 1) := by decide +kernel
theorem dX10_again_29 : decode cX10_again 29 = .ok (.iconst 0, 1) := by decide +kernel
theorem dX10_again_30 : decode cX10_again 30 = .ok (.istore_n 2, 1) := by decide +kernel
theorem dX10_again_31 : decode cX10_again 31 = .ok (.iload_n 2, 1) := by decide +kernel
theorem dX10_again_32 : decode cX10_again 32 = .ok (.bipush 12, 2) := by decide +kernel
theorem dX10_again_34 : decode cX10_again 34 = .ok (.if_icmp .ge 26, 3) := by decide +kernel
theorem dX10_again_37 : decode cX10_again 37 = .ok (.aload_n 0, 1) := by decide +kernel
theorem dX10_again_38 : decode cX10_again 38 = .ok (.getfield 16, 3) := by decide +kernel
theorem dX10_again_41 : decode cX10_again 41 = .ok (.iload_n 2, 1) := by decide +kernel
theorem dX10_again_42 : decode cX10_again 42 = .ok (.aload_n 0, 1) := by decide +kernel
theorem dX10_again_43 : decode cX10_again 43 = .ok (.getfield 26, 3) := by decide +kernel
theorem dX10_again_46 : decode cX10_again 46 = .ok (.bipush 12, 2) := by decide +kernel
theorem dX10_again_48 : decode cX10_again 48 = .ok (.iload_n 1, 1) := by decide +kernel
theorem dX10_again_49 : decode cX10_again 49 = .ok (.imul, 1) := by decide +kernel
theorem dX10_again_50 : decode cX10_again 50 = .ok (.iload_n 2, 1) := by decide +kernel
theorem dX10_again_51 : decode cX10_again 51 = .ok (.iadd, 1) := by decide +kernel
theorem dX10_again_52 : decode cX10_again 52 = .ok (.iaload, 1) := by decide +kernel
theorem dX10_again_53 : decode cX10_again 53 = .ok (.iastore, 1) := by decide +kernel
theorem dX10_again_54 : decode cX10_again 54 = .ok (.iinc 2 1, 3) := by decide +kernel
theorem dX10_again_57 : decode cX10_again 57 = .ok (.goto (-26), 3) := by decide +kernel
theorem dX10_again_60 : decode cX10_again 60 = .ok (.aload_n 0, 1) := by decide +kernel
theorem dX10_again_61 : decode cX10_again 61 = .ok (.iconst 0, 1) := by decide +kernel
theorem dX10_again_62 : decode cX10_again 62 = .ok (.putfield 114, 3) := by decide +kernel
theorem dX10_again_65 : decode cX10_again 65 = .ok (.aload_n 0, 1) := by decide +kernel
theorem dX10_again_66 : decode cX10_again 66 = .ok (.getfield 16, 3) := by decide +kernel
theorem dX10_again_69 : decode cX10_again 69 = .ok (.invokestatic 132, 3) := by decide +kernel
theorem dX10_again_72 : decode cX10_again 72 = .ok (.ireturn, 1) := by decide +kernel
theorem dJ6_bitCount_0f7a4_0 : decode cJ6_bitCount_0f7a4 0 = .ok (.iload_n 0, 1) := by decide +kernel
theorem dJ6_bitCount_0f7a4_1 : decode cJ6_bitCount_0f7a4 1 = .ok (.iload_n 0, 1) := by decide +kernel
theorem dJ6_bitCount_0f7a4_2 : decode cJ6_bitCount_0f7a4 2 = .ok (.iconst 1, 1) := by decide +kernel
theorem dJ6_bitCount_0f7a4_3 : decode cJ6_bitCount_0f7a4 3 = .ok (.iushr, 1) := by decide +kernel
theorem dJ6_bitCount_0f7a4_4 : decode cJ6_bitCount_0f7a4 4 = .ok (.ldc_w 265, 3) := by decide +kernel
theorem dJ6_bitCount_0f7a4_7 : decode cJ6_bitCount_0f7a4 7 = .ok (.iand, 1) := by decide +kernel
theorem dJ6_bitCount_0f7a4_8 : decode cJ6_bitCount_0f7a4 8 = .ok (.isub, 1) := by decide +kernel
theorem dJ6_bitCount_0f7a4_9 : decode cJ6_bitCount_0f7a4 9 = .ok (.istore_n 0, 1) := by decide +kernel
theorem dJ6_bitCount_0f7a4_10 : decode cJ6_bitCount_0f7a4 10 = .ok (.iload_n 0, 1) := by decide +kernel
theorem dJ6_bitCount_0f7a4_11 : decode cJ6_bitCount_0f7a4 11 = .ok (.ldc_w 266, 3) := by decide +kernel
theorem dJ6_bitCount_0f7a4_14 : decode cJ6_bitCount_0f7a4 14 = .ok (.iand, 1) := by decide +kernel
theorem dJ6_bitCount_0f7a4_15 : decode cJ6_bitCount_0f7a4 15 = .ok (.iload_n 0, 1) := by decide +kernel
theorem dJ6_bitCount_0f7a4_16 : decode cJ6_bitCount_0f7a4 16 = .ok (.iconst 2, 1) := by decide +kernel
theorem dJ6_bitCount_0f7a4_17 : decode cJ6_bitCount_0f7a4 17 = .ok (.iushr, 1) := by decide +kernel
theorem dJ6_bitCount_0f7a4_18 : decode cJ6_bitCount_0f7a4 18 = .ok (.ldc_w 266, 3) := by decide +kernel
theorem dJ6_bitCount_0f7a4_21 : decode cJ6_bitCount_0f7a4 21 = .ok (.iand, 1) := by decide +kernel
theorem dJ6_bitCount_0f7a4_22 : decode cJ6_bitCount_0f7a4 22 = .ok (.iadd, 1) := by decide +kernel
theorem dJ6_bitCount_0f7a4_23 : decode cJ6_bitCount_0f7a4 23 = .ok (.istore_n 0, 1) := by decide +kernel
theorem dJ6_bitCount_0f7a4_24 : decode cJ6_bitCount_0f7a4 24 = .ok (.iload_n 0, 1) := by decide +kernel
theorem dJ6_bitCount_0f7a4_25 : decode cJ6_bitCount_0f7a4 25 = .ok (.iload_n 0, 1) := by decide +kernel
theorem dJ6_bitCount_0f7a4_26 : decode cJ6_bitCount_0f7a4 26 = .ok (.iconst 4, 1) := by decide +kernel
theorem dJ6_bitCount_0f7a4_27 : decode cJ6_bitCount_0f7a4 27 = .ok (.iushr, 1) := by decide +kernel
theorem dJ6_bitCount_0f7a4_28 : decode cJ6_bitCount_0f7a4 28 = .ok (.iadd, 1) := by decide +kernel
theorem dJ6_bitCount_0f7a4_29 : decode cJ6_bitCount_0f7a4 29 = .ok (.ldc_w 267, 3) := by decide +kernel
theorem dJ6_bitCount_0f7a4_32 : decode cJ6_bitCount_0f7a4 32 = .ok (.iand, 1) := by decide +kernel
theorem dJ6_bitCount_0f7a4_33 : decode cJ6_bitCount_0f7a4 33 = .ok (.istore_n 0, 1) := by decide +kernel
theorem dJ6_bitCount_0f7a4_34 : decode cJ6_bitCount_0f7a4 34 = .ok (.iload_n 0, 1) := by decide +kernel
theorem dJ6_bitCount_0f7a4_35 : decode cJ6_bitCount_0f7a4 35 = .ok (.iload_n 0, 1) := by decide +kernel
theorem dJ6_bitCount_0f7a4_36 : decode cJ6_bitCount_0f7a4 36 = .ok (.bipush 8, 2) := by decide +kernel
theorem dJ6_bitCount_0f7a4_38 : decode cJ6_bitCount_0f7a4 38 = .ok (.iushr, 1) := by decide +kernel
theorem dJ6_bitCount_0f7a4_39 : decode cJ6_bitCount_0f7a4 39 = .ok (.iadd, 1) := by decide +kernel
theorem dJ6_bitCount_0f7a4_40 : decode cJ6_bitCount_0f7a4 40 = .ok (.istore_n 0, 1) := by decide +kernel
theorem dJ6_bitCount_0f7a4_41 : decode cJ6_bitCount_0f7a4 41 = .ok (.iload_n 0, 1) := by decide +kernel
theorem dJ6_bitCount_0f7a4_42 : decode cJ6_bitCount_0f7a4 42 = .ok (.iload_n 0, 1) := by decide +kernel
theorem dJ6_bitCount_0f7a4_43 : decode cJ6_bitCount_0f7a4 43 = .ok (.bipush 16, 2) := by decide +kernel
theorem dJ6_bitCount_0f7a4_45 : decode cJ6_bitCount_0f7a4 45 = .ok (.iushr, 1) := by decide +kernel
theorem dJ6_bitCount_0f7a4_46 : decode cJ6_bitCount_0f7a4 46 = .ok (.iadd, 1) := by decide +kernel
theorem dJ6_bitCount_0f7a4_47 : decode cJ6_bitCount_0f7a4 47 = .ok (.istore_n 0, 1) := by decide +kernel
theorem dJ6_bitCount_0f7a4_48 : decode cJ6_bitCount_0f7a4 48 = .ok (.iload_n 0, 1) := by decide +kernel
theorem dJ6_bitCount_0f7a4_49 : decode cJ6_bitCount_0f7a4 49 = .ok (.bipush 63, 2) := by decide +kernel
theorem dJ6_bitCount_0f7a4_51 : decode cJ6_bitCount_0f7a4 51 = .ok (.iand, 1) := by decide +kernel
theorem dJ6_bitCount_0f7a4_52 : decode cJ6_bitCount_0f7a4 52 = .ok (.ireturn, 1) := by decide +kernel
theorem dJ9_max_7cf53_0 : decode cJ9_max_7cf53 0 = .ok (.iload_n 0, 1) := by decide +kernel
theorem dJ9_max_7cf53_1 : decode cJ9_max_7cf53 1 = .ok (.iload_n 1, 1) := by decide +kernel
theorem dJ9_max_7cf53_2 : decode cJ9_max_7cf53 2 = .ok (.if_icmp .lt 7, 3) := by decide +kernel
theorem dJ9_max_7cf53_5 : decode cJ9_max_7cf53 5 = .ok (.iload_n 0, 1) := by decide +kernel
theorem dJ9_max_7cf53_6 : decode cJ9_max_7cf53 6 = .ok (.goto 4, 3) := by decide +kernel
theorem dJ9_max_7cf53_9 : decode cJ9_max_7cf53 9 = .ok (.iload_n 1, 1) := by decide +kernel
theorem dJ9_max_7cf53_10 : decode cJ9_max_7cf53 10 = .ok (.ireturn, 1) := by decide +kernel
theorem dJ9_min_7cf53_0 : decode cJ9_min_7cf53 0 = .ok (.iload_n 0, 1) := by decide +kernel
theorem dJ9_min_7cf53_1 : decode cJ9_min_7cf53 1 = .ok (.iload_n 1, 1) := by decide +kernel
theorem dJ9_min_7cf53_2 : decode cJ9_min_7cf53 2 = .ok (.if_icmp .gt 7, 3) := by decide +kernel
theorem dJ9_min_7cf53_5 : decode cJ9_min_7cf53 5 = .ok (.iload_n 0, 1) := by decide +kernel
theorem dJ9_min_7cf53_6 : decode cJ9_min_7cf53 6 = .ok (.goto 4, 3) := by decide +kernel
theorem dJ9_min_7cf53_9 : decode cJ9_min_7cf53 9 = .ok (.iload_n 1, 1) := by decide +kernel
theorem dJ9_min_7cf53_10 : decode cJ9_min_7cf53 10 = .ok (.ireturn, 1) := by decide +kernel
