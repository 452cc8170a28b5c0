theorem dX0_init_0 : decode cX0_init 0 = .ok (.aload_n 0, 1) := by decide +kernel
theorem dX0_init_1 : decode cX0_init 1 = .ok (.invokespecial 3, 3) := by decide +kernel
theorem dX0_init_4 : decode cX0_init 4 = .ok (.aload_n 0, 1) := by decide +kernel
theorem dX0_init_5 : decode cX0_init 5 = .ok (.bipush 120, 2) := by decide +kernel
theorem dX0_init_7 : decode cX0_init 7 = .ok (.newarray .int, 2) := by decide +kernel
theorem dX0_init_9 : decode cX0_init 9 = .ok (.putfield 11, 3) := by decide +kernel
theorem dX0_init_12 : decode cX0_init 12 = .ok (.aload_n 0, 1) := by decide +kernel
theorem dX0_init_13 : decode cX0_init 13 = .ok (.bipush 10, 2) := by decide +kernel
theorem dX0_init_15 : decode cX0_init 15 = .ok (.newarray .long, 2) := by decide +kernel
theorem dX0_init_17 : decode cX0_init 17 = .ok (.putfield 17, 3) := by decide +kernel
theorem dX0_init_20 : decode cX0_init 20 = .ok (.return_, 1) := by decide +kernel
set_option maxRecDepth 20000 in
theorem ggX0_remember_X4_saveTo : GoodIn wsX0_remember wsX4_saveTo := goodIn_r _ [13, 14, 15, 16, 17, 18, 19, 20, 21, 22, 23, 28, 29, 30, 31, 32, 33] (by decide +kernel) (by decide +kernel)
set_option maxRecDepth 20000 in
theorem gX0_remember_X4_saveTo : GoodIn wsX0_remember (wsV RX0 25 RX4 yX4_saveTo wsX4_saveTo) := goodIn_app (goodIn_of _ (by decide +kernel)) ggX0_remember_X4_saveTo
theorem dX0_remember_0 : decode cX0_remember 0 = .ok (.aload_n 1, 1) := by decide +kernel
theorem dX0_remember_1 : decode cX0_remember 1 = .ok (.aload_n 0, 1) := by decide +kernel
theorem dX0_remember_2 : decode cX0_remember 2 = .ok (.getfield 11, 3) := by decide +kernel
theorem dX0_remember_5 : decode cX0_remember 5 = .ok (.aload_n 0, 1) := by decide +kernel
theorem dX0_remember_6 : decode cX0_remember 6 = .ok (.getfield 21, 3) := by decide +kernel
theorem dX0_remember_9 : decode cX0_remember 9 = .ok (.invokevirtual 25, 3) := by decide +kernel
theorem dX0_remember_12 : decode cX0_remember 12 = .ok (.aload_n 0, 1) := by decide +kernel
theorem dX0_remember_13 : decode cX0_remember 13 = .ok (.getfield 17, 3) := by decide +kernel
theorem dX0_remember_16 : decode cX0_remember 16 = .ok (.aload_n 0, 1) := by decide +kernel
theorem dX0_remember_17 : decode cX0_remember 17 = .ok (.getfield 21, 3) := by decide +kernel
theorem dX0_remember_20 : decode cX0_remember 20 = .ok (.lload_n 2, 1) := by decide +kernel
theorem dX0_remember_21 : decode cX0_remember 21 = .ok (.lastore, 1) := by decide +kernel
theorem dX0_remember_22 : decode cX0_remember 22 = .ok (.aload_n 0, 1) := by decide +kernel
theorem dX0_remember_23 : decode cX0_remember 23 = .ok (.aload_n 0, 1) := by decide +kernel
theorem dX0_remember_24 : decode cX0_remember 24 = .ok (.getfield 21, 3) := by decide +kernel
theorem dX0_remember_27 : decode cX0_remember 27 = .ok (.iconst 1, 1) := by decide +kernel
theorem dX0_remember_28 : decode cX0_remember 28 = .ok (.iadd, 1) := by decide +kernel
theorem dX0_remember_29 : decode cX0_remember 29 = .ok (.bipush 10, 2) := by decide +kernel
theorem dX0_remember_31 : decode cX0_remember 31 = .ok (.irem, 1) := by decide +kernel
theorem dX0_remember_32 : decode cX0_remember 32 = .ok (.putfield 21, 3) := by decide +kernel
theorem dX0_remember_35 : decode cX0_remember 35 = .ok (.aload_n 0, 1) := by decide +kernel
theorem dX0_remember_36 : decode cX0_remember 36 = .ok (.bipush 10, 2) := by decide +kernel
theorem dX0_remember_38 : decode cX0_remember 38 = .ok (.aload_n 0, 1) := by decide +kernel
theorem dX0_remember_39 : decode cX0_remember 39 = .ok (.getfield 29, 3) := by decide +kernel
theorem dX0_remember_42 : decode cX0_remember 42 = .ok (.iconst 1, 1) := by decide +kernel
theorem dX0_remember_43 : decode cX0_remember 43 = .ok (.iadd, 1) := by decide +kernel
theorem dX0_remember_44 : decode cX0_remember 44 = .ok (.invokestatic 32, 3) := by decide +kernel
theorem dX0_remember_47 : decode cX0_remember 47 = .ok (.putfield 29, 3) := by decide +kernel
theorem dX0_remember_50 : decode cX0_remember 50 = .ok (.return_, 1) := by decide +kernel
set_option maxRecDepth 20000 in
theorem ggX0_takeBack_X4_loadFrom : GoodIn wsX0_takeBack wsX4_loadFrom := goodIn_r _ [9, 10, 11, 12, 13, 14, 15, 16, 17, 18, 19, 24, 25, 26, 27, 28, 29] (by decide +kernel) (by decide +kernel)
set_option maxRecDepth 20000 in
theorem gX0_takeBack_X4_loadFrom : GoodIn wsX0_takeBack (wsV RX0 38 RX4 yX4_loadFrom wsX4_loadFrom) := goodIn_app (goodIn_of _ (by decide +kernel)) ggX0_takeBack_X4_loadFrom
theorem dX0_takeBack_0 : decode cX0_takeBack 0 = .ok (.aload_n 0, 1) := by decide +kernel
theorem dX0_takeBack_1 : decode cX0_takeBack 1 = .ok (.getfield 29, 3) := by decide +kernel
theorem dX0_takeBack_4 : decode cX0_takeBack 4 = .ok (.ifCond .ne 5, 3) := by decide +kernel
theorem dX0_takeBack_7 : decode cX0_takeBack 7 = .ok (.lload_n 2, 1) := by decide +kernel
theorem dX0_takeBack_8 : decode cX0_takeBack 8 = .ok (.lreturn, 1) := by decide +kernel
theorem dX0_takeBack_9 : decode cX0_takeBack 9 = .ok (.aload_n 0, 1) := by decide +kernel
theorem dX0_takeBack_10 : decode cX0_takeBack 10 = .ok (.aload_n 0, 1) := by decide +kernel
theorem dX0_takeBack_11 : decode cX0_takeBack 11 = .ok (.getfield 21, 3) := by decide +kernel
theorem dX0_takeBack_14 : decode cX0_takeBack 14 = .ok (.bipush 10, 2) := by decide +kernel
theorem dX0_takeBack_16 : decode cX0_takeBack 16 = .ok (.iadd, 1) := by decide +kernel
theorem dX0_takeBack_17 : decode cX0_takeBack 17 = .ok (.iconst 1, 1) := by decide +kernel
theorem dX0_takeBack_18 : decode cX0_takeBack 18 = .ok (.isub, 1) := by decide +kernel
theorem dX0_takeBack_19 : decode cX0_takeBack 19 = .ok (.bipush 10, 2) := by decide +kernel
theorem dX0_takeBack_21 : decode cX0_takeBack 21 = .ok (.irem, 1) := by decide +kernel
theorem dX0_takeBack_22 : decode cX0_takeBack 22 = .ok (.putfield 21, 3) := by decide +kernel
theorem dX0_takeBack_25 : decode cX0_takeBack 25 = .ok (.aload_n 0, 1) := by decide +kernel
theorem dX0_takeBack_26 : decode cX0_takeBack 26 = .ok (.dup, 1) := by decide +kernel
theorem dX0_takeBack_27 : decode cX0_takeBack 27 = .ok (.getfield 29, 3) := by decide +kernel
theorem dX0_takeBack_30 : decode cX0_takeBack 30 = .ok (.iconst 1, 1) := by decide +kernel
theorem dX0_takeBack_31 : decode cX0_takeBack 31 = .ok (.isub, 1) := by decide +kernel
theorem dX0_takeBack_32 : decode cX0_takeBack 32 = .ok (.putfield 29, 3) := by decide +kernel
theorem dX0_takeBack_35 : decode cX0_takeBack 35 = .ok (.aload_n 1, 1) := by decide +kernel
theorem dX0_takeBack_36 : decode cX0_takeBack 36 = .ok (.aload_n 0, 1) := by decide +kernel
theorem dX0_takeBack_37 : decode cX0_takeBack 37 = .ok (.getfield 11, 3) := by decide +kernel
theorem dX0_takeBack_40 : decode cX0_takeBack 40 = .ok (.aload_n 0, 1) := by decide +kernel
theorem dX0_takeBack_41 : decode cX0_takeBack 41 = .ok (.getfield 21, 3) := by decide +kernel
theorem dX0_takeBack_44 : decode cX0_takeBack 44 = .ok (.invokevirtual 38, 3) := by decide +kernel
theorem dX0_takeBack_47 : decode cX0_takeBack 47 = .ok (.aload_n 0, 1) := by decide +kernel
theorem dX0_takeBack_48 : decode cX0_takeBack 48 = .ok (.getfield 17, 3) := by decide +kernel
theorem dX0_takeBack_51 : decode cX0_takeBack 51 = .ok (.aload_n 0, 1) := by decide +kernel
theorem dX0_takeBack_52 : decode cX0_takeBack 52 = .ok (.getfield 21, 3) := by decide +kernel
theorem dX0_takeBack_55 : decode cX0_takeBack 55 = .ok (.laload, 1) := by decide +kernel
theorem dX0_takeBack_56 : decode cX0_takeBack 56 = .ok (.lreturn, 1) := by decide +kernel
theorem dX0_forget_0 : decode cX0_forget 0 = .ok (.aload_n 0, 1) := by decide +kernel
theorem dX0_forget_1 : decode cX0_forget 1 = .ok (.iconst 0, 1) := by decide +kernel
theorem dX0_forget_2 : decode cX0_forget 2 = .ok (.putfield 29, 3) := by decide +kernel
theorem dX0_forget_5 : decode cX0_forget 5 = .ok (.return_, 1) := by decide +kernel
theorem dX1_init_0 : decode cX1_init 0 = .ok (.aload_n 0, 1) := by decide +kernel
theorem dX1_init_1 : decode cX1_init 1 = .ok (.invokespecial 3, 3) := by decide +kernel
theorem dX1_init_4 : decode cX1_init 4 = .ok (.aload_n 0, 1) := by decide +kernel
theorem dX1_init_5 : decode cX1_init 5 = .ok (.iconst 1, 1) := by decide +kernel
theorem dX1_init_6 : decode cX1_init 6 = .ok (.putfield 9, 3) := by decide +kernel
theorem dX1_init_9 : decode cX1_init 9 = .ok (.return_, 1) := by decide +kernel
set_option maxRecDepth 20000 in
theorem ggX1_firstFault_X3_at : GoodIn wsX1_firstFault wsX3_at := goodIn_r _ [5, 6, 7, 12, 13] (by decide +kernel) (by decide +kernel)
set_option maxRecDepth 20000 in
theorem gX1_firstFault_X3_at : GoodIn wsX1_firstFault (wsV RX1 20 RX3 yX3_at wsX3_at) := goodIn_app (goodIn_of _ (by decide +kernel)) ggX1_firstFault_X3_at
set_option maxRecDepth 20000 in
theorem ggX1_firstFault_X1_fits : GoodIn wsX1_firstFault wsX1_fits := goodIn_r _ [11] (by decide +kernel) (by decide +kernel)
set_option maxRecDepth 20000 in
theorem gX1_firstFault_X1_fits : GoodIn wsX1_firstFault (va_wsS RX1 24 yX1_fits wsX1_fits) := goodIn_app (goodIn_of _ (by decide +kernel)) ggX1_firstFault_X1_fits
theorem dX1_firstFault_0 : decode cX1_firstFault 0 = .ok (.iconst 0, 1) := by decide +kernel
theorem dX1_firstFault_1 : decode cX1_firstFault 1 = .ok (.istore_n 1, 1) := by decide +kernel
theorem dX1_firstFault_2 : decode cX1_firstFault 2 = .ok (.iload_n 1, 1) := by decide +kernel
theorem dX1_firstFault_3 : decode cX1_firstFault 3 = .ok (.aload_n 0, 1) := by decide +kernel
theorem dX1_firstFault_4 : decode cX1_firstFault 4 = .ok (.getfield 15, 3) := by decide +kernel
theorem dX1_firstFault_7 : decode cX1_firstFault 7 = .ok (.if_icmp .ge 23, 3) := by decide +kernel
theorem dX1_firstFault_10 : decode cX1_firstFault 10 = .ok (.iload_n 1, 1) := by decide +kernel
theorem dX1_firstFault_11 : decode cX1_firstFault 11 = .ok (.aload_n 0, 1) := by decide +kernel
theorem dX1_firstFault_12 : decode cX1_firstFault 12 = .ok (.iload_n 1, 1) := by decide +kernel
theorem dX1_firstFault_13 : decode cX1_firstFault 13 = .ok (.invokevirtual 20, 3) := by decide +kernel
theorem dX1_firstFault_16 : decode cX1_firstFault 16 = .ok (.invokestatic 24, 3) := by decide +kernel
theorem dX1_firstFault_19 : decode cX1_firstFault 19 = .ok (.ifCond .ne 5, 3) := by decide +kernel
theorem dX1_firstFault_22 : decode cX1_firstFault 22 = .ok (.iload_n 1, 1) := by decide +kernel
theorem dX1_firstFault_23 : decode cX1_firstFault 23 = .ok (.ireturn, 1) := by decide +kernel
theorem dX1_firstFault_24 : decode cX1_firstFault 24 = .ok (.iinc 1 1, 3) := by decide +kernel
theorem dX1_firstFault_27 : decode cX1_firstFault 27 = .ok (.goto (-25), 3) := by decide +kernel
theorem dX1_firstFault_30 : decode cX1_firstFault 30 = .ok (.aload_n 0, 1) := by decide +kernel
theorem dX1_firstFault_31 : decode cX1_firstFault 31 = .ok (.getfield 15, 3) := by decide +kernel
theorem dX1_firstFault_34 : decode cX1_firstFault 34 = .ok (.iconst 2, 1) := by decide +kernel
theorem dX1_firstFault_35 : decode cX1_firstFault 35 = .ok (.if_icmp .lt 18, 3) := by decide +kernel
theorem dX1_firstFault_38 : decode cX1_firstFault 38 = .ok (.aload_n 0, 1) := by decide +kernel
theorem dX1_firstFault_39 : decode cX1_firstFault 39 = .ok (.getfield 15, 3) := by decide +kernel
theorem dX1_firstFault_42 : decode cX1_firstFault 42 = .ok (.iconst 2, 1) := by decide +kernel
theorem dX1_firstFault_43 : decode cX1_firstFault 43 = .ok (.isub, 1) := by decide +kernel
theorem dX1_firstFault_44 : decode cX1_firstFault 44 = .ok (.iconst 3, 1) := by decide +kernel
theorem dX1_firstFault_45 : decode cX1_firstFault 45 = .ok (.irem, 1) := by decide +kernel
theorem dX1_firstFault_46 : decode cX1_firstFault 46 = .ok (.ifCond .ne 7, 3) := by decide +kernel
theorem dX1_firstFault_49 : decode cX1_firstFault 49 = .ok (.iconst 1, 1) := by decide +kernel
theorem dX1_firstFault_50 : decode cX1_firstFault 50 = .ok (.goto 4, 3) := by decide +kernel
theorem dX1_firstFault_53 : decode cX1_firstFault 53 = .ok (.iconst 0, 1) := by decide +kernel
theorem dX1_firstFault_54 : decode cX1_firstFault 54 = .ok (.istore_n 1, 1) := by decide +kernel
theorem dX1_firstFault_55 : decode cX1_firstFault 55 = .ok (.iload_n 1, 1) := by decide +kernel
theorem dX1_firstFault_56 : decode cX1_firstFault 56 = .ok (.ifCond .eq 8, 3) := by decide +kernel
theorem dX1_firstFault_59 : decode cX1_firstFault 59 = .ok (.bipush (-9), 2) := by decide +kernel
theorem dX1_firstFault_61 : decode cX1_firstFault 61 = .ok (.goto 7, 3) := by decide +kernel
theorem dX1_firstFault_64 : decode cX1_firstFault 64 = .ok (.aload_n 0, 1) := by decide +kernel
theorem dX1_firstFault_65 : decode cX1_firstFault 65 = .ok (.getfield 15, 3) := by decide +kernel
theorem dX1_firstFault_68 : decode cX1_firstFault 68 = .ok (.ireturn, 1) := by decide +kernel
theorem dX1_fits_0 : decode cX1_fits 0 = .ok (.iload_n 0, 1) := by decide +kernel
theorem dX1_fits_1 : decode cX1_fits 1 = .ok (.ifCond .ne 15, 3) := by decide +kernel
theorem dX1_fits_4 : decode cX1_fits 4 = .ok (.iload_n 1, 1) := by decide +kernel
theorem dX1_fits_5 : decode cX1_fits 5 = .ok (.bipush 77, 2) := by decide +kernel
theorem dX1_fits_7 : decode cX1_fits 7 = .ok (.if_icmp .ne 7, 3) := by decide +kernel
theorem dX1_fits_10 : decode cX1_fits 10 = .ok (.iconst 1, 1) := by decide +kernel
theorem dX1_fits_11 : decode cX1_fits 11 = .ok (.goto 4, 3) := by decide +kernel
theorem dX1_fits_14 : decode cX1_fits 14 = .ok (.iconst 0, 1) := by decide +kernel
theorem dX1_fits_15 : decode cX1_fits 15 = .ok (.ireturn, 1) := by decide +kernel
theorem dX1_fits_16 : decode cX1_fits 16 = .ok (.iload_n 0, 1) := by decide +kernel
theorem dX1_fits_17 : decode cX1_fits 17 = .ok (.iconst 2, 1) := by decide +kernel
theorem dX1_fits_18 : decode cX1_fits 18 = .ok (.if_icmp .ge 21, 3) := by decide +kernel
theorem dX1_fits_21 : decode cX1_fits 21 = .ok (.iload_n 1, 1) := by decide +kernel
theorem dX1_fits_22 : decode cX1_fits 22 = .ok (.bipush 48, 2) := by decide +kernel
theorem dX1_fits_24 : decode cX1_fits 24 = .ok (.if_icmp .lt 13, 3) := by decide +kernel
theorem dX1_fits_27 : decode cX1_fits 27 = .ok (.iload_n 1, 1) := by decide +kernel
theorem dX1_fits_28 : decode cX1_fits 28 = .ok (.bipush 54, 2) := by decide +kernel
theorem dX1_fits_30 : decode cX1_fits 30 = .ok (.if_icmp .gt 7, 3) := by decide +kernel
theorem dX1_fits_33 : decode cX1_fits 33 = .ok (.iconst 1, 1) := by decide +kernel
theorem dX1_fits_34 : decode cX1_fits 34 = .ok (.goto 4, 3) := by decide +kernel
theorem dX1_fits_37 : decode cX1_fits 37 = .ok (.iconst 0, 1) := by decide +kernel
theorem dX1_fits_38 : decode cX1_fits 38 = .ok (.ireturn, 1) := by decide +kernel
theorem dX1_fits_39 : decode cX1_fits 39 = .ok (.iload_n 0, 1) := by decide +kernel
theorem dX1_fits_40 : decode cX1_fits 40 = .ok (.bipush 17, 2) := by decide +kernel
theorem dX1_fits_42 : decode cX1_fits 42 = .ok (.if_icmp .lt 5, 3) := by decide +kernel
theorem dX1_fits_45 : decode cX1_fits 45 = .ok (.iconst 0, 1) := by decide +kernel
theorem dX1_fits_46 : decode cX1_fits 46 = .ok (.ireturn, 1) := by decide +kernel
theorem dX1_fits_47 : decode cX1_fits 47 = .ok (.iload_n 0, 1) := by decide +kernel
theorem dX1_fits_48 : decode cX1_fits 48 = .ok (.iconst 2, 1) := by decide +kernel
theorem dX1_fits_49 : decode cX1_fits 49 = .ok (.isub, 1) := by decide +kernel
theorem dX1_fits_50 : decode cX1_fits 50 = .ok (.iconst 3, 1) := by decide +kernel
theorem dX1_fits_51 : decode cX1_fits 51 = .ok (.irem, 1) := by decide +kernel
theorem dX1_fits_52 : decode cX1_fits 52 = .ok (.ifCond .ne 15, 3) := by decide +kernel
theorem dX1_fits_55 : decode cX1_fits 55 = .ok (.iload_n 1, 1) := by decide +kernel
theorem dX1_fits_56 : decode cX1_fits 56 = .ok (.bipush 70, 2) := by decide +kernel
theorem dX1_fits_58 : decode cX1_fits 58 = .ok (.if_icmp .ne 7, 3) := by decide +kernel
theorem dX1_fits_61 : decode cX1_fits 61 = .ok (.iconst 1, 1) := by decide +kernel
theorem dX1_fits_62 : decode cX1_fits 62 = .ok (.goto 4, 3) := by decide +kernel
theorem dX1_fits_65 : decode cX1_fits 65 = .ok (.iconst 0, 1) := by decide +kernel
theorem dX1_fits_66 : decode cX1_fits 66 = .ok (.ireturn, 1) := by decide +kernel
theorem dX1_fits_67 : decode cX1_fits 67 = .ok (.iload_n 1, 1) := by decide +kernel
theorem dX1_fits_68 : decode cX1_fits 68 = .ok (.bipush 48, 2) := by decide +kernel
theorem dX1_fits_70 : decode cX1_fits 70 = .ok (.if_icmp .eq 9, 3) := by decide +kernel
theorem dX1_fits_73 : decode cX1_fits 73 = .ok (.iload_n 1, 1) := by decide +kernel
theorem dX1_fits_74 : decode cX1_fits 74 = .ok (.bipush 49, 2) := by decide +kernel
theorem dX1_fits_76 : decode cX1_fits 76 = .ok (.if_icmp .ne 7, 3) := by decide +kernel
theorem dX1_fits_79 : decode cX1_fits 79 = .ok (.iconst 1, 1) := by decide +kernel
theorem dX1_fits_80 : decode cX1_fits 80 = .ok (.goto 4, 3) := by decide +kernel
theorem dX1_fits_83 : decode cX1_fits 83 = .ok (.iconst 0, 1) := by decide +kernel
theorem dX1_fits_84 : decode cX1_fits 84 = .ok (.ireturn, 1) := by decide +kernel
set_option maxRecDepth 20000 in
theorem ggX1_read_X3_at : GoodIn wsX1_read wsX3_at := goodIn_r _ [14, 15, 16, 27, 28] (by decide +kernel) (by decide +kernel)
set_option maxRecDepth 20000 in
theorem gX1_read_X3_at : GoodIn wsX1_read (wsV RX1 20 RX3 yX3_at wsX3_at) := goodIn_app (goodIn_of _ (by decide +kernel)) ggX1_read_X3_at
set_option maxRecDepth 20000 in
theorem ggX1_read_X1_casesThatAgree : GoodIn wsX1_read wsX1_casesThatAgree := goodIn_r _ [21, 6, 7, 8, 22, 23, 24, 25, 26] (by decide +kernel) (by decide +kernel)
set_option maxRecDepth 20000 in
theorem gX1_read_X1_casesThatAgree : GoodIn wsX1_read (wsV RX1 46 RX1 yX1_casesThatAgree wsX1_casesThatAgree) := goodIn_app (goodIn_of _ (by decide +kernel)) ggX1_read_X1_casesThatAgree
theorem dX1_read_0 : decode cX1_read 0 = .ok (.aload_n 0, 1) := by decide +kernel
theorem dX1_read_1 : decode cX1_read 1 = .ok (.aload_n 1, 1) := by decide +kernel
theorem dX1_read_2 : decode cX1_read 2 = .ok (.iconst 1, 1) := by decide +kernel
theorem dX1_read_3 : decode cX1_read 3 = .ok (.invokevirtual 20, 3) := by decide +kernel
theorem dX1_read_6 : decode cX1_read 6 = .ok (.bipush 48, 2) := by decide +kernel
theorem dX1_read_8 : decode cX1_read 8 = .ok (.isub, 1) := by decide +kernel
theorem dX1_read_9 : decode cX1_read 9 = .ok (.putfield 28, 3) := by decide +kernel
theorem dX1_read_12 : decode cX1_read 12 = .ok (.aload_n 0, 1) := by decide +kernel
theorem dX1_read_13 : decode cX1_read 13 = .ok (.iconst 5, 1) := by decide +kernel
theorem dX1_read_14 : decode cX1_read 14 = .ok (.aload_n 1, 1) := by decide +kernel
theorem dX1_read_15 : decode cX1_read 15 = .ok (.getfield 15, 3) := by decide +kernel
theorem dX1_read_18 : decode cX1_read 18 = .ok (.iconst 2, 1) := by decide +kernel
theorem dX1_read_19 : decode cX1_read 19 = .ok (.isub, 1) := by decide +kernel
theorem dX1_read_20 : decode cX1_read 20 = .ok (.iconst 3, 1) := by decide +kernel
theorem dX1_read_21 : decode cX1_read 21 = .ok (.idiv, 1) := by decide +kernel
theorem dX1_read_22 : decode cX1_read 22 = .ok (.invokestatic 31, 3) := by decide +kernel
theorem dX1_read_25 : decode cX1_read 25 = .ok (.putfield 37, 3) := by decide +kernel
theorem dX1_read_28 : decode cX1_read 28 = .ok (.aload_n 0, 1) := by decide +kernel
theorem dX1_read_29 : decode cX1_read 29 = .ok (.iconst 0, 1) := by decide +kernel
theorem dX1_read_30 : decode cX1_read 30 = .ok (.putfield 40, 3) := by decide +kernel
theorem dX1_read_33 : decode cX1_read 33 = .ok (.aload_n 0, 1) := by decide +kernel
theorem dX1_read_34 : decode cX1_read 34 = .ok (.iconst 0, 1) := by decide +kernel
theorem dX1_read_35 : decode cX1_read 35 = .ok (.putfield 43, 3) := by decide +kernel
theorem dX1_read_38 : decode cX1_read 38 = .ok (.iconst 0, 1) := by decide +kernel
theorem dX1_read_39 : decode cX1_read 39 = .ok (.istore_n 2, 1) := by decide +kernel
theorem dX1_read_40 : decode cX1_read 40 = .ok (.iload_n 2, 1) := by decide +kernel
theorem dX1_read_41 : decode cX1_read 41 = .ok (.aload_n 0, 1) := by decide +kernel
theorem dX1_read_42 : decode cX1_read 42 = .ok (.getfield 37, 3) := by decide +kernel
theorem dX1_read_45 : decode cX1_read 45 = .ok (.if_icmp .ge 57, 3) := by decide +kernel
theorem dX1_read_48 : decode cX1_read 48 = .ok (.iconst 2, 1) := by decide +kernel
theorem dX1_read_49 : decode cX1_read 49 = .ok (.iload_n 2, 1) := by decide +kernel
theorem dX1_read_50 : decode cX1_read 50 = .ok (.iconst 3, 1) := by decide +kernel
theorem dX1_read_51 : decode cX1_read 51 = .ok (.imul, 1) := by decide +kernel
theorem dX1_read_52 : decode cX1_read 52 = .ok (.iadd, 1) := by decide +kernel
theorem dX1_read_53 : decode cX1_read 53 = .ok (.istore_n 3, 1) := by decide +kernel
theorem dX1_read_54 : decode cX1_read 54 = .ok (.aload_n 0, 1) := by decide +kernel
theorem dX1_read_55 : decode cX1_read 55 = .ok (.dup, 1) := by decide +kernel
theorem dX1_read_56 : decode cX1_read 56 = .ok (.getfield 40, 3) := by decide +kernel
theorem dX1_read_59 : decode cX1_read 59 = .ok (.aload_n 1, 1) := by decide +kernel
theorem dX1_read_60 : decode cX1_read 60 = .ok (.iload_n 3, 1) := by decide +kernel
theorem dX1_read_61 : decode cX1_read 61 = .ok (.iconst 1, 1) := by decide +kernel
theorem dX1_read_62 : decode cX1_read 62 = .ok (.iadd, 1) := by decide +kernel
theorem dX1_read_63 : decode cX1_read 63 = .ok (.invokevirtual 20, 3) := by decide +kernel
theorem dX1_read_66 : decode cX1_read 66 = .ok (.bipush 48, 2) := by decide +kernel
theorem dX1_read_68 : decode cX1_read 68 = .ok (.isub, 1) := by decide +kernel
theorem dX1_read_69 : decode cX1_read 69 = .ok (.iload_n 2, 1) := by decide +kernel
theorem dX1_read_70 : decode cX1_read 70 = .ok (.ishl, 1) := by decide +kernel
theorem dX1_read_71 : decode cX1_read 71 = .ok (.ior, 1) := by decide +kernel
theorem dX1_read_72 : decode cX1_read 72 = .ok (.putfield 40, 3) := by decide +kernel
theorem dX1_read_75 : decode cX1_read 75 = .ok (.aload_n 0, 1) := by decide +kernel
theorem dX1_read_76 : decode cX1_read 76 = .ok (.dup, 1) := by decide +kernel
theorem dX1_read_77 : decode cX1_read 77 = .ok (.getfield 43, 3) := by decide +kernel
theorem dX1_read_80 : decode cX1_read 80 = .ok (.aload_n 1, 1) := by decide +kernel
theorem dX1_read_81 : decode cX1_read 81 = .ok (.iload_n 3, 1) := by decide +kernel
theorem dX1_read_82 : decode cX1_read 82 = .ok (.iconst 2, 1) := by decide +kernel
theorem dX1_read_83 : decode cX1_read 83 = .ok (.iadd, 1) := by decide +kernel
theorem dX1_read_84 : decode cX1_read 84 = .ok (.invokevirtual 20, 3) := by decide +kernel
theorem dX1_read_87 : decode cX1_read 87 = .ok (.bipush 48, 2) := by decide +kernel
theorem dX1_read_89 : decode cX1_read 89 = .ok (.isub, 1) := by decide +kernel
theorem dX1_read_90 : decode cX1_read 90 = .ok (.iload_n 2, 1) := by decide +kernel
theorem dX1_read_91 : decode cX1_read 91 = .ok (.ishl, 1) := by decide +kernel
theorem dX1_read_92 : decode cX1_read 92 = .ok (.ior, 1) := by decide +kernel
theorem dX1_read_93 : decode cX1_read 93 = .ok (.putfield 43, 3) := by decide +kernel
theorem dX1_read_96 : decode cX1_read 96 = .ok (.iinc 2 1, 3) := by decide +kernel
theorem dX1_read_99 : decode cX1_read 99 = .ok (.goto (-59), 3) := by decide +kernel
theorem dX1_read_102 : decode cX1_read 102 = .ok (.aload_n 0, 1) := by decide +kernel
theorem dX1_read_103 : decode cX1_read 103 = .ok (.aload_n 0, 1) := by decide +kernel
theorem dX1_read_104 : decode cX1_read 104 = .ok (.invokevirtual 46, 3) := by decide +kernel
theorem dX1_read_107 : decode cX1_read 107 = .ok (.putfield 9, 3) := by decide +kernel
theorem dX1_read_110 : decode cX1_read 110 = .ok (.return_, 1) := by decide +kernel
theorem dX1_casesThatAgree_0 : decode cX1_casesThatAgree 0 = .ok (.iconst 0, 1) := by decide +kernel
theorem dX1_casesThatAgree_1 : decode cX1_casesThatAgree 1 = .ok (.istore_n 1, 1) := by decide +kernel
theorem dX1_casesThatAgree_2 : decode cX1_casesThatAgree 2 = .ok (.iconst 0, 1) := by decide +kernel
theorem dX1_casesThatAgree_3 : decode cX1_casesThatAgree 3 = .ok (.istore_n 2, 1) := by decide +kernel
theorem dX1_casesThatAgree_4 : decode cX1_casesThatAgree 4 = .ok (.iload_n 2, 1) := by decide +kernel
theorem dX1_casesThatAgree_5 : decode cX1_casesThatAgree 5 = .ok (.iconst 1, 1) := by decide +kernel
theorem dX1_casesThatAgree_6 : decode cX1_casesThatAgree 6 = .ok (.aload_n 0, 1) := by decide +kernel
theorem dX1_casesThatAgree_7 : decode cX1_casesThatAgree 7 = .ok (.getfield 37, 3) := by decide +kernel
theorem dX1_casesThatAgree_10 : decode cX1_casesThatAgree 10 = .ok (.ishl, 1) := by decide +kernel
theorem dX1_casesThatAgree_11 : decode cX1_casesThatAgree 11 = .ok (.if_icmp .ge 29, 3) := by decide +kernel
theorem dX1_casesThatAgree_14 : decode cX1_casesThatAgree 14 = .ok (.iload_n 2, 1) := by decide +kernel
theorem dX1_casesThatAgree_15 : decode cX1_casesThatAgree 15 = .ok (.aload_n 0, 1) := by decide +kernel
theorem dX1_casesThatAgree_16 : decode cX1_casesThatAgree 16 = .ok (.getfield 40, 3) := by decide +kernel
theorem dX1_casesThatAgree_19 : decode cX1_casesThatAgree 19 = .ok (.ixor, 1) := by decide +kernel
theorem dX1_casesThatAgree_20 : decode cX1_casesThatAgree 20 = .ok (.aload_n 0, 1) := by decide +kernel
theorem dX1_casesThatAgree_21 : decode cX1_casesThatAgree 21 = .ok (.getfield 43, 3) := by decide +kernel
theorem dX1_casesThatAgree_24 : decode cX1_casesThatAgree 24 = .ok (.iand, 1) := by decide +kernel
theorem dX1_casesThatAgree_25 : decode cX1_casesThatAgree 25 = .ok (.ifCond .ne 9, 3) := by decide +kernel
theorem dX1_casesThatAgree_28 : decode cX1_casesThatAgree 28 = .ok (.iload_n 1, 1) := by decide +kernel
theorem dX1_casesThatAgree_29 : decode cX1_casesThatAgree 29 = .ok (.iconst 1, 1) := by decide +kernel
theorem dX1_casesThatAgree_30 : decode cX1_casesThatAgree 30 = .ok (.iload_n 2, 1) := by decide +kernel
theorem dX1_casesThatAgree_31 : decode cX1_casesThatAgree 31 = .ok (.ishl, 1) := by decide +kernel
theorem dX1_casesThatAgree_32 : decode cX1_casesThatAgree 32 = .ok (.ior, 1) := by decide +kernel
theorem dX1_casesThatAgree_33 : decode cX1_casesThatAgree 33 = .ok (.istore_n 1, 1) := by decide +kernel
theorem dX1_casesThatAgree_34 : decode cX1_casesThatAgree 34 = .ok (.iinc 2 1, 3) := by decide +kernel
theorem dX1_casesThatAgree_37 : decode cX1_casesThatAgree 37 = .ok (.goto (-33), 3) := by decide +kernel
theorem dX1_casesThatAgree_40 : decode cX1_casesThatAgree 40 = .ok (.iload_n 1, 1) := by decide +kernel
theorem dX1_casesThatAgree_41 : decode cX1_casesThatAgree 41 = .ok (.ireturn, 1) := by decide +kernel
theorem dX1_hasFact_0 : decode cX1_hasFact 0 = .ok (.iload_n 1, 1) := by decide +kernel
theorem dX1_hasFact_1 : decode cX1_hasFact 1 = .ok (.ifCond .lt 15, 3) := by decide +kernel
theorem dX1_hasFact_4 : decode cX1_hasFact 4 = .ok (.iload_n 1, 1) := by decide +kernel
theorem dX1_hasFact_5 : decode cX1_hasFact 5 = .ok (.aload_n 0, 1) := by decide +kernel
theorem dX1_hasFact_6 : decode cX1_hasFact 6 = .ok (.getfield 37, 3) := by decide +kernel
theorem dX1_hasFact_9 : decode cX1_hasFact 9 = .ok (.if_icmp .ge 7, 3) := by decide +kernel
theorem dX1_hasFact_12 : decode cX1_hasFact 12 = .ok (.iconst 1, 1) := by decide +kernel
theorem dX1_hasFact_13 : decode cX1_hasFact 13 = .ok (.goto 4, 3) := by decide +kernel
theorem dX1_hasFact_16 : decode cX1_hasFact 16 = .ok (.iconst 0, 1) := by decide +kernel
theorem dX1_hasFact_17 : decode cX1_hasFact 17 = .ok (.ireturn, 1) := by decide +kernel
theorem dX1_hasCase_0 : decode cX1_hasCase 0 = .ok (.iload_n 1, 1) := by decide +kernel
theorem dX1_hasCase_1 : decode cX1_hasCase 1 = .ok (.ifCond .lt 17, 3) := by decide +kernel
theorem dX1_hasCase_4 : decode cX1_hasCase 4 = .ok (.iload_n 1, 1) := by decide +kernel
theorem dX1_hasCase_5 : decode cX1_hasCase 5 = .ok (.iconst 1, 1) := by decide +kernel
theorem dX1_hasCase_6 : decode cX1_hasCase 6 = .ok (.aload_n 0, 1) := by decide +kernel
theorem dX1_hasCase_7 : decode cX1_hasCase 7 = .ok (.getfield 37, 3) := by decide +kernel
theorem dX1_hasCase_10 : decode cX1_hasCase 10 = .ok (.ishl, 1) := by decide +kernel
theorem dX1_hasCase_11 : decode cX1_hasCase 11 = .ok (.if_icmp .ge 7, 3) := by decide +kernel
theorem dX1_hasCase_14 : decode cX1_hasCase 14 = .ok (.iconst 1, 1) := by decide +kernel
theorem dX1_hasCase_15 : decode cX1_hasCase 15 = .ok (.goto 4, 3) := by decide +kernel
theorem dX1_hasCase_18 : decode cX1_hasCase 18 = .ok (.iconst 0, 1) := by decide +kernel
theorem dX1_hasCase_19 : decode cX1_hasCase 19 = .ok (.ireturn, 1) := by decide +kernel
set_option maxRecDepth 20000 in
theorem ggX1_hasSimple_X6_factOf : GoodIn wsX1_hasSimple wsX6_factOf := goodIn_r _ [4] (by decide +kernel) (by decide +kernel)
set_option maxRecDepth 20000 in
theorem gX1_hasSimple_X6_factOf : GoodIn wsX1_hasSimple (va_wsS RX1 52 yX6_factOf wsX6_factOf) := goodIn_app (goodIn_of _ (by decide +kernel)) ggX1_hasSimple_X6_factOf
set_option maxRecDepth 20000 in
theorem ggX1_hasSimple_X1_hasFact : GoodIn wsX1_hasSimple wsX1_hasFact := goodIn_r _ [9, 10, 11, 12, 13, 14, 15] (by decide +kernel) (by decide +kernel)
set_option maxRecDepth 20000 in
theorem gX1_hasSimple_X1_hasFact : GoodIn wsX1_hasSimple (wsV RX1 55 RX1 yX1_hasFact wsX1_hasFact) := goodIn_app (goodIn_of _ (by decide +kernel)) ggX1_hasSimple_X1_hasFact
theorem dX1_hasSimple_0 : decode cX1_hasSimple 0 = .ok (.iload_n 1, 1) := by decide +kernel
theorem dX1_hasSimple_1 : decode cX1_hasSimple 1 = .ok (.ifCond .lt 9, 3) := by decide +kernel
theorem dX1_hasSimple_4 : decode cX1_hasSimple 4 = .ok (.iload_n 1, 1) := by decide +kernel
theorem dX1_hasSimple_5 : decode cX1_hasSimple 5 = .ok (.bipush 19, 2) := by decide +kernel
theorem dX1_hasSimple_7 : decode cX1_hasSimple 7 = .ok (.if_icmp .lt 5, 3) := by decide +kernel
theorem dX1_hasSimple_10 : decode cX1_hasSimple 10 = .ok (.iconst 0, 1) := by decide +kernel
theorem dX1_hasSimple_11 : decode cX1_hasSimple 11 = .ok (.ireturn, 1) := by decide +kernel
theorem dX1_hasSimple_12 : decode cX1_hasSimple 12 = .ok (.iload_n 1, 1) := by decide +kernel
theorem dX1_hasSimple_13 : decode cX1_hasSimple 13 = .ok (.invokestatic 52, 3) := by decide +kernel
theorem dX1_hasSimple_16 : decode cX1_hasSimple 16 = .ok (.istore_n 2, 1) := by decide +kernel
theorem dX1_hasSimple_17 : decode cX1_hasSimple 17 = .ok (.iload_n 2, 1) := by decide +kernel
theorem dX1_hasSimple_18 : decode cX1_hasSimple 18 = .ok (.bipush (-9), 2) := by decide +kernel
theorem dX1_hasSimple_20 : decode cX1_hasSimple 20 = .ok (.if_icmp .eq 11, 3) := by decide +kernel
theorem dX1_hasSimple_23 : decode cX1_hasSimple 23 = .ok (.aload_n 0, 1) := by decide +kernel
theorem dX1_hasSimple_24 : decode cX1_hasSimple 24 = .ok (.iload_n 2, 1) := by decide +kernel
theorem dX1_hasSimple_25 : decode cX1_hasSimple 25 = .ok (.invokevirtual 55, 3) := by decide +kernel
theorem dX1_hasSimple_28 : decode cX1_hasSimple 28 = .ok (.ifCond .eq 7, 3) := by decide +kernel
theorem dX1_hasSimple_31 : decode cX1_hasSimple 31 = .ok (.iconst 1, 1) := by decide +kernel
theorem dX1_hasSimple_32 : decode cX1_hasSimple 32 = .ok (.goto 4, 3) := by decide +kernel
theorem dX1_hasSimple_35 : decode cX1_hasSimple 35 = .ok (.iconst 0, 1) := by decide +kernel
theorem dX1_hasSimple_36 : decode cX1_hasSimple 36 = .ok (.ireturn, 1) := by decide +kernel
theorem dX2_init_0 : decode cX2_init 0 = .ok (.aload_n 0, 1) := by decide +kernel
theorem dX2_init_1 : decode cX2_init 1 = .ok (.invokespecial 3, 3) := by decide +kernel
theorem dX2_init_4 : decode cX2_init 4 = .ok (.aload_n 0, 1) := by decide +kernel
theorem dX2_init_5 : decode cX2_init 5 = .ok (.iconst 4, 1) := by decide +kernel
theorem dX2_init_6 : decode cX2_init 6 = .ok (.bipush 7, 2) := by decide +kernel
theorem dX2_init_8 : decode cX2_init 8 = .ok (.multianewarray 9 2, 4) := by decide +kernel
theorem dX2_init_12 : decode cX2_init 12 = .ok (.putfield 11, 3) := by decide +kernel
theorem dX2_init_15 : decode cX2_init 15 = .ok (.aload_n 0, 1) := by decide +kernel
theorem dX2_init_16 : decode cX2_init 16 = .ok (.iconst 5, 1) := by decide +kernel
theorem dX2_init_17 : decode cX2_init 17 = .ok (.newarray .int, 2) := by decide +kernel
theorem dX2_init_19 : decode cX2_init 19 = .ok (.putfield 16, 3) := by decide +kernel
theorem dX2_init_22 : decode cX2_init 22 = .ok (.return_, 1) := by decide +kernel
set_option maxRecDepth 20000 in
theorem ggX2_firstToAsk_X2_leastThatTells : GoodIn wsX2_firstToAsk wsX2_leastThatTells := goodIn_r _ [10, 11, 12, 13, 14, 15, 16, 17, 18, 19, 20, 21, 22, 23, 24, 25, 26, 27, 9, 28, 1, 29, 30, 31, 32, 33, 34, 35, 36, 37, 38, 39, 40, 41, 42, 43, 44, 45, 46, 47, 48, 49, 50, 51, 52, 53, 54, 6, 7, 8, 55, 56, 57, 58, 59, 60, 61, 62, 63, 64, 65, 66, 67, 68, 69, 70, 71, 72, 73, 74, 75, 76, 77, 78, 79, 86, 87, 88, 89, 90, 91, 92] (by decide +kernel) (by decide +kernel)
set_option maxRecDepth 20000 in
theorem gX2_firstToAsk_X2_leastThatTells : GoodIn wsX2_firstToAsk (wsV RX2 35 RX2 yX2_leastThatTells wsX2_leastThatTells) := goodIn_app (goodIn_of _ (by decide +kernel)) ggX2_firstToAsk_X2_leastThatTells
theorem dX2_firstToAsk_0 : decode cX2_firstToAsk 0 = .ok (.aload_n 1, 1) := by decide +kernel
theorem dX2_firstToAsk_1 : decode cX2_firstToAsk 1 = .ok (.getfield 20, 3) := by decide +kernel
theorem dX2_firstToAsk_4 : decode cX2_firstToAsk 4 = .ok (.iconst 0, 1) := by decide +kernel
theorem dX2_firstToAsk_5 : decode cX2_firstToAsk 5 = .ok (.aload_n 0, 1) := by decide +kernel
theorem dX2_firstToAsk_6 : decode cX2_firstToAsk 6 = .ok (.getfield 11, 3) := by decide +kernel
theorem dX2_firstToAsk_9 : decode cX2_firstToAsk 9 = .ok (.iconst 0, 1) := by decide +kernel
theorem dX2_firstToAsk_10 : decode cX2_firstToAsk 10 = .ok (.aaload, 1) := by decide +kernel
theorem dX2_firstToAsk_11 : decode cX2_firstToAsk 11 = .ok (.iconst 0, 1) := by decide +kernel
theorem dX2_firstToAsk_12 : decode cX2_firstToAsk 12 = .ok (.bipush 7, 2) := by decide +kernel
theorem dX2_firstToAsk_14 : decode cX2_firstToAsk 14 = .ok (.invokestatic 25, 3) := by decide +kernel
theorem dX2_firstToAsk_17 : decode cX2_firstToAsk 17 = .ok (.aload_n 0, 1) := by decide +kernel
theorem dX2_firstToAsk_18 : decode cX2_firstToAsk 18 = .ok (.aload_n 2, 1) := by decide +kernel
theorem dX2_firstToAsk_19 : decode cX2_firstToAsk 19 = .ok (.iconst 0, 1) := by decide +kernel
theorem dX2_firstToAsk_20 : decode cX2_firstToAsk 20 = .ok (.iload_n 3, 1) := by decide +kernel
theorem dX2_firstToAsk_21 : decode cX2_firstToAsk 21 = .ok (.iload 4, 2) := by decide +kernel
theorem dX2_firstToAsk_23 : decode cX2_firstToAsk 23 = .ok (.aload_n 1, 1) := by decide +kernel
theorem dX2_firstToAsk_24 : decode cX2_firstToAsk 24 = .ok (.getfield 31, 3) := by decide +kernel
theorem dX2_firstToAsk_27 : decode cX2_firstToAsk 27 = .ok (.invokevirtual 35, 3) := by decide +kernel
theorem dX2_firstToAsk_30 : decode cX2_firstToAsk 30 = .ok (.ireturn, 1) := by decide +kernel
set_option maxRecDepth 20000 in
theorem ggX2_leastThatTells_X1_hasSimple : GoodIn wsX2_leastThatTells wsX1_hasSimple := goodIn_r _ [5, 6, 7, 8, 9, 10, 11, 12, 4, 13, 14, 77, 78, 79, 80, 81] (by decide +kernel) (by decide +kernel)
set_option maxRecDepth 20000 in
theorem gX2_leastThatTells_X1_hasSimple : GoodIn wsX2_leastThatTells (wsV RX2 41 RX1 yX1_hasSimple wsX1_hasSimple) := goodIn_app (goodIn_of _ (by decide +kernel)) ggX2_leastThatTells_X1_hasSimple
set_option maxRecDepth 20000 in
theorem ggX2_leastThatTells_X2_tellsBehind : GoodIn wsX2_leastThatTells wsX2_tellsBehind := goodIn_r _ [50, 20, 51, 52, 26, 53, 54, 55, 56, 57, 58, 59, 8, 60, 61, 62, 63, 64, 39, 65, 66, 67, 68, 69, 7, 9, 42, 43, 44, 70, 71, 72, 73, 74, 18, 19, 21, 22, 23, 24, 25, 27, 28, 29, 30, 31, 32, 33, 34, 35, 36, 37, 38, 40, 41, 45, 46, 47, 48, 49, 0, 1, 2, 3, 4, 5, 6, 10, 11, 12, 13, 14, 15, 16, 17, 75, 76, 77, 78, 79, 80, 81] (by decide +kernel) (by decide +kernel)
set_option maxRecDepth 20000 in
theorem gX2_leastThatTells_X2_tellsBehind : GoodIn wsX2_leastThatTells (wsV RX2 47 RX2 yX2_tellsBehind wsX2_tellsBehind) := goodIn_app (goodIn_of _ (by decide +kernel)) ggX2_leastThatTells_X2_tellsBehind
theorem dX2_leastThatTells_0 : decode cX2_leastThatTells 0 = .ok (.iconst 0, 1) := by decide +kernel
theorem dX2_leastThatTells_1 : decode cX2_leastThatTells 1 = .ok (.istore 6, 2) := by decide +kernel
theorem dX2_leastThatTells_3 : decode cX2_leastThatTells 3 = .ok (.iload 6, 2) := by decide +kernel
theorem dX2_leastThatTells_5 : decode cX2_leastThatTells 5 = .ok (.bipush 19, 2) := by decide +kernel
theorem dX2_leastThatTells_7 : decode cX2_leastThatTells 7 = .ok (.if_icmp .ge 37, 3) := by decide +kernel
theorem dX2_leastThatTells_10 : decode cX2_leastThatTells 10 = .ok (.aload_n 1, 1) := by decide +kernel
theorem dX2_leastThatTells_11 : decode cX2_leastThatTells 11 = .ok (.iload 6, 2) := by decide +kernel
theorem dX2_leastThatTells_13 : decode cX2_leastThatTells 13 = .ok (.invokevirtual 41, 3) := by decide +kernel
theorem dX2_leastThatTells_16 : decode cX2_leastThatTells 16 = .ok (.ifCond .eq 22, 3) := by decide +kernel
theorem dX2_leastThatTells_19 : decode cX2_leastThatTells 19 = .ok (.aload_n 0, 1) := by decide +kernel
theorem dX2_leastThatTells_20 : decode cX2_leastThatTells 20 = .ok (.aload_n 1, 1) := by decide +kernel
theorem dX2_leastThatTells_21 : decode cX2_leastThatTells 21 = .ok (.iload 6, 2) := by decide +kernel
theorem dX2_leastThatTells_23 : decode cX2_leastThatTells 23 = .ok (.iload_n 2, 1) := by decide +kernel
theorem dX2_leastThatTells_24 : decode cX2_leastThatTells 24 = .ok (.iload_n 3, 1) := by decide +kernel
theorem dX2_leastThatTells_25 : decode cX2_leastThatTells 25 = .ok (.iload 4, 2) := by decide +kernel
theorem dX2_leastThatTells_27 : decode cX2_leastThatTells 27 = .ok (.iload 5, 2) := by decide +kernel
theorem dX2_leastThatTells_29 : decode cX2_leastThatTells 29 = .ok (.invokevirtual 47, 3) := by decide +kernel
theorem dX2_leastThatTells_32 : decode cX2_leastThatTells 32 = .ok (.ifCond .eq 6, 3) := by decide +kernel
theorem dX2_leastThatTells_35 : decode cX2_leastThatTells 35 = .ok (.iload 6, 2) := by decide +kernel
theorem dX2_leastThatTells_37 : decode cX2_leastThatTells 37 = .ok (.ireturn, 1) := by decide +kernel
theorem dX2_leastThatTells_38 : decode cX2_leastThatTells 38 = .ok (.iinc 6 1, 3) := by decide +kernel
theorem dX2_leastThatTells_41 : decode cX2_leastThatTells 41 = .ok (.goto (-38), 3) := by decide +kernel
theorem dX2_leastThatTells_44 : decode cX2_leastThatTells 44 = .ok (.bipush (-9), 2) := by decide +kernel
theorem dX2_leastThatTells_46 : decode cX2_leastThatTells 46 = .ok (.ireturn, 1) := by decide +kernel
set_option maxRecDepth 20000 in
theorem ggX2_tellsBehind_X8_narrow : GoodIn wsX2_tellsBehind wsX8_narrow := goodIn_r _ [5, 6, 7, 8, 9, 10, 11, 12, 13, 14, 15, 16, 17, 18, 19, 20, 21, 22, 23, 24, 25, 26, 27, 28, 29, 30] (by decide +kernel) (by decide +kernel)
set_option maxRecDepth 20000 in
theorem gX2_tellsBehind_X8_narrow : GoodIn wsX2_tellsBehind (va_wsS RX2 51 yX8_narrow wsX8_narrow) := goodIn_app (goodIn_of _ (by decide +kernel)) ggX2_tellsBehind_X8_narrow
set_option maxRecDepth 20000 in
theorem ggX2_tellsBehind_X2_isToldIn : GoodIn wsX2_tellsBehind wsX2_isToldIn := goodIn_r _ [35, 1, 36, 37, 34, 38, 39, 40, 4, 41, 42, 43, 44, 45, 46, 47, 48, 49, 50, 51, 52, 18, 53, 54, 26, 27, 28, 55, 56, 57, 58, 59, 60, 61, 62, 63, 64, 65, 66, 24, 12, 25, 67, 68, 69, 70, 71, 72, 73, 74, 0, 2, 3, 5, 6, 7, 8, 9, 10, 11, 13, 14, 15, 16, 17, 19, 20, 21, 22, 23, 29, 30, 31, 32, 33, 75, 76, 77, 78, 79, 80, 81] (by decide +kernel) (by decide +kernel)
set_option maxRecDepth 20000 in
theorem gX2_tellsBehind_X2_isToldIn : GoodIn wsX2_tellsBehind (wsV RX2 57 RX2 yX2_isToldIn wsX2_isToldIn) := goodIn_app (goodIn_of _ (by decide +kernel)) ggX2_tellsBehind_X2_isToldIn
theorem dX2_tellsBehind_0 : decode cX2_tellsBehind 0 = .ok (.iload_n 3, 1) := by decide +kernel
theorem dX2_tellsBehind_1 : decode cX2_tellsBehind 1 = .ok (.ifCond .lt 8, 3) := by decide +kernel
theorem dX2_tellsBehind_4 : decode cX2_tellsBehind 4 = .ok (.iload_n 3, 1) := by decide +kernel
theorem dX2_tellsBehind_5 : decode cX2_tellsBehind 5 = .ok (.iconst 3, 1) := by decide +kernel
theorem dX2_tellsBehind_6 : decode cX2_tellsBehind 6 = .ok (.if_icmp .lt 5, 3) := by decide +kernel
theorem dX2_tellsBehind_9 : decode cX2_tellsBehind 9 = .ok (.iconst 0, 1) := by decide +kernel
theorem dX2_tellsBehind_10 : decode cX2_tellsBehind 10 = .ok (.ireturn, 1) := by decide +kernel
theorem dX2_tellsBehind_11 : decode cX2_tellsBehind 11 = .ok (.iconst 0, 1) := by decide +kernel
theorem dX2_tellsBehind_12 : decode cX2_tellsBehind 12 = .ok (.istore 7, 2) := by decide +kernel
theorem dX2_tellsBehind_14 : decode cX2_tellsBehind 14 = .ok (.iload 7, 2) := by decide +kernel
theorem dX2_tellsBehind_16 : decode cX2_tellsBehind 16 = .ok (.iconst 3, 1) := by decide +kernel
theorem dX2_tellsBehind_17 : decode cX2_tellsBehind 17 = .ok (.if_icmp .ge 57, 3) := by decide +kernel
theorem dX2_tellsBehind_20 : decode cX2_tellsBehind 20 = .ok (.aload_n 0, 1) := by decide +kernel
theorem dX2_tellsBehind_21 : decode cX2_tellsBehind 21 = .ok (.getfield 11, 3) := by decide +kernel
theorem dX2_tellsBehind_24 : decode cX2_tellsBehind 24 = .ok (.iload_n 3, 1) := by decide +kernel
theorem dX2_tellsBehind_25 : decode cX2_tellsBehind 25 = .ok (.aaload, 1) := by decide +kernel
theorem dX2_tellsBehind_26 : decode cX2_tellsBehind 26 = .ok (.aload_n 0, 1) := by decide +kernel
theorem dX2_tellsBehind_27 : decode cX2_tellsBehind 27 = .ok (.getfield 11, 3) := by decide +kernel
theorem dX2_tellsBehind_30 : decode cX2_tellsBehind 30 = .ok (.iload_n 3, 1) := by decide +kernel
theorem dX2_tellsBehind_31 : decode cX2_tellsBehind 31 = .ok (.iconst 1, 1) := by decide +kernel
theorem dX2_tellsBehind_32 : decode cX2_tellsBehind 32 = .ok (.iadd, 1) := by decide +kernel
theorem dX2_tellsBehind_33 : decode cX2_tellsBehind 33 = .ok (.aaload, 1) := by decide +kernel
theorem dX2_tellsBehind_34 : decode cX2_tellsBehind 34 = .ok (.iload_n 2, 1) := by decide +kernel
theorem dX2_tellsBehind_35 : decode cX2_tellsBehind 35 = .ok (.iload 7, 2) := by decide +kernel
theorem dX2_tellsBehind_37 : decode cX2_tellsBehind 37 = .ok (.iload 6, 2) := by decide +kernel
theorem dX2_tellsBehind_39 : decode cX2_tellsBehind 39 = .ok (.bipush 7, 2) := by decide +kernel
theorem dX2_tellsBehind_41 : decode cX2_tellsBehind 41 = .ok (.irem, 1) := by decide +kernel
theorem dX2_tellsBehind_42 : decode cX2_tellsBehind 42 = .ok (.invokestatic 51, 3) := by decide +kernel
theorem dX2_tellsBehind_45 : decode cX2_tellsBehind 45 = .ok (.aload_n 0, 1) := by decide +kernel
theorem dX2_tellsBehind_46 : decode cX2_tellsBehind 46 = .ok (.aload_n 1, 1) := by decide +kernel
theorem dX2_tellsBehind_47 : decode cX2_tellsBehind 47 = .ok (.iload_n 3, 1) := by decide +kernel
theorem dX2_tellsBehind_48 : decode cX2_tellsBehind 48 = .ok (.iconst 1, 1) := by decide +kernel
theorem dX2_tellsBehind_49 : decode cX2_tellsBehind 49 = .ok (.iadd, 1) := by decide +kernel
theorem dX2_tellsBehind_50 : decode cX2_tellsBehind 50 = .ok (.iload 4, 2) := by decide +kernel
theorem dX2_tellsBehind_52 : decode cX2_tellsBehind 52 = .ok (.iconst 1, 1) := by decide +kernel
theorem dX2_tellsBehind_53 : decode cX2_tellsBehind 53 = .ok (.isub, 1) := by decide +kernel
theorem dX2_tellsBehind_54 : decode cX2_tellsBehind 54 = .ok (.iload 5, 2) := by decide +kernel
theorem dX2_tellsBehind_56 : decode cX2_tellsBehind 56 = .ok (.iload 6, 2) := by decide +kernel
theorem dX2_tellsBehind_58 : decode cX2_tellsBehind 58 = .ok (.iconst 1, 1) := by decide +kernel
theorem dX2_tellsBehind_59 : decode cX2_tellsBehind 59 = .ok (.iadd, 1) := by decide +kernel
theorem dX2_tellsBehind_60 : decode cX2_tellsBehind 60 = .ok (.invokevirtual 57, 3) := by decide +kernel
theorem dX2_tellsBehind_63 : decode cX2_tellsBehind 63 = .ok (.ifCond .ne 5, 3) := by decide +kernel
theorem dX2_tellsBehind_66 : decode cX2_tellsBehind 66 = .ok (.iconst 0, 1) := by decide +kernel
theorem dX2_tellsBehind_67 : decode cX2_tellsBehind 67 = .ok (.ireturn, 1) := by decide +kernel
theorem dX2_tellsBehind_68 : decode cX2_tellsBehind 68 = .ok (.iinc 7 1, 3) := by decide +kernel
theorem dX2_tellsBehind_71 : decode cX2_tellsBehind 71 = .ok (.goto (-57), 3) := by decide +kernel
theorem dX2_tellsBehind_74 : decode cX2_tellsBehind 74 = .ok (.iconst 1, 1) := by decide +kernel
theorem dX2_tellsBehind_75 : decode cX2_tellsBehind 75 = .ok (.ireturn, 1) := by decide +kernel
set_option maxRecDepth 20000 in
theorem ggX2_isToldIn_X2_kindsLeft : GoodIn wsX2_isToldIn wsX2_kindsLeft := goodIn_r _ [5, 6, 7, 8, 9, 10, 11, 12, 13, 14, 15, 16, 17, 18, 19, 20, 21, 22, 23, 24, 25, 26, 27, 28] (by decide +kernel) (by decide +kernel)
set_option maxRecDepth 20000 in
theorem gX2_isToldIn_X2_kindsLeft : GoodIn wsX2_isToldIn (va_wsS RX2 61 yX2_kindsLeft wsX2_kindsLeft) := goodIn_app (goodIn_of _ (by decide +kernel)) ggX2_isToldIn_X2_kindsLeft
set_option maxRecDepth 20000 in
theorem ggX2_isToldIn_X2_leastThatTells : GoodIn wsX2_isToldIn wsX2_leastThatTells := goodIn_r _ [32, 33, 34, 35, 36, 37, 38, 39, 40, 41, 42, 43, 44, 45, 46, 47, 48, 49, 4, 0, 1, 2, 3, 5, 6, 7, 8, 9, 10, 11, 12, 13, 14, 15, 16, 17, 18, 19, 20, 21, 22, 23, 24, 25, 26, 27, 28, 29, 30, 31, 50, 51, 52, 53, 54, 55, 56, 57, 58, 59, 60, 61, 62, 63, 64, 65, 66, 67, 68, 69, 70, 71, 72, 73, 74, 75, 76, 77, 78, 79, 80, 81] (by decide +kernel) (by decide +kernel)
set_option maxRecDepth 20000 in
theorem gX2_isToldIn_X2_leastThatTells : GoodIn wsX2_isToldIn (wsV RX2 35 RX2 yX2_leastThatTells wsX2_leastThatTells) := goodIn_app (goodIn_of _ (by decide +kernel)) ggX2_isToldIn_X2_leastThatTells
theorem dX2_isToldIn_0 : decode cX2_isToldIn 0 = .ok (.aload_n 0, 1) := by decide +kernel
theorem dX2_isToldIn_1 : decode cX2_isToldIn 1 = .ok (.getfield 11, 3) := by decide +kernel
theorem dX2_isToldIn_4 : decode cX2_isToldIn 4 = .ok (.iload_n 2, 1) := by decide +kernel
theorem dX2_isToldIn_5 : decode cX2_isToldIn 5 = .ok (.aaload, 1) := by decide +kernel
theorem dX2_isToldIn_6 : decode cX2_isToldIn 6 = .ok (.iload 4, 2) := by decide +kernel
theorem dX2_isToldIn_8 : decode cX2_isToldIn 8 = .ok (.invokestatic 61, 3) := by decide +kernel
theorem dX2_isToldIn_11 : decode cX2_isToldIn 11 = .ok (.istore 6, 2) := by decide +kernel
theorem dX2_isToldIn_13 : decode cX2_isToldIn 13 = .ok (.iload 6, 2) := by decide +kernel
theorem dX2_isToldIn_15 : decode cX2_isToldIn 15 = .ok (.iconst 1, 1) := by decide +kernel
theorem dX2_isToldIn_16 : decode cX2_isToldIn 16 = .ok (.if_icmp .gt 5, 3) := by decide +kernel
theorem dX2_isToldIn_19 : decode cX2_isToldIn 19 = .ok (.iconst 1, 1) := by decide +kernel
theorem dX2_isToldIn_20 : decode cX2_isToldIn 20 = .ok (.ireturn, 1) := by decide +kernel
theorem dX2_isToldIn_21 : decode cX2_isToldIn 21 = .ok (.iload 6, 2) := by decide +kernel
theorem dX2_isToldIn_23 : decode cX2_isToldIn 23 = .ok (.iconst 1, 1) := by decide +kernel
theorem dX2_isToldIn_24 : decode cX2_isToldIn 24 = .ok (.iload_n 3, 1) := by decide +kernel
theorem dX2_isToldIn_25 : decode cX2_isToldIn 25 = .ok (.ishl, 1) := by decide +kernel
theorem dX2_isToldIn_26 : decode cX2_isToldIn 26 = .ok (.if_icmp .le 5, 3) := by decide +kernel
theorem dX2_isToldIn_29 : decode cX2_isToldIn 29 = .ok (.iconst 0, 1) := by decide +kernel
theorem dX2_isToldIn_30 : decode cX2_isToldIn 30 = .ok (.ireturn, 1) := by decide +kernel
theorem dX2_isToldIn_31 : decode cX2_isToldIn 31 = .ok (.aload_n 0, 1) := by decide +kernel
theorem dX2_isToldIn_32 : decode cX2_isToldIn 32 = .ok (.aload_n 1, 1) := by decide +kernel
theorem dX2_isToldIn_33 : decode cX2_isToldIn 33 = .ok (.iload_n 2, 1) := by decide +kernel
theorem dX2_isToldIn_34 : decode cX2_isToldIn 34 = .ok (.iload_n 3, 1) := by decide +kernel
theorem dX2_isToldIn_35 : decode cX2_isToldIn 35 = .ok (.iload 4, 2) := by decide +kernel
theorem dX2_isToldIn_37 : decode cX2_isToldIn 37 = .ok (.iload 5, 2) := by decide +kernel
theorem dX2_isToldIn_39 : decode cX2_isToldIn 39 = .ok (.invokevirtual 35, 3) := by decide +kernel
theorem dX2_isToldIn_42 : decode cX2_isToldIn 42 = .ok (.bipush (-9), 2) := by decide +kernel
theorem dX2_isToldIn_44 : decode cX2_isToldIn 44 = .ok (.if_icmp .eq 7, 3) := by decide +kernel
theorem dX2_isToldIn_47 : decode cX2_isToldIn 47 = .ok (.iconst 1, 1) := by decide +kernel
theorem dX2_isToldIn_48 : decode cX2_isToldIn 48 = .ok (.goto 4, 3) := by decide +kernel
theorem dX2_isToldIn_51 : decode cX2_isToldIn 51 = .ok (.iconst 0, 1) := by decide +kernel
theorem dX2_isToldIn_52 : decode cX2_isToldIn 52 = .ok (.ireturn, 1) := by decide +kernel
set_option maxRecDepth 20000 in
theorem ggX2_kindsLeft_X8_trueDays : GoodIn wsX2_kindsLeft wsX8_trueDays := goodIn_r _ [4] (by decide +kernel) (by decide +kernel)
set_option maxRecDepth 20000 in
theorem gX2_kindsLeft_X8_trueDays : GoodIn wsX2_kindsLeft (va_wsS RX2 65 yX8_trueDays wsX8_trueDays) := goodIn_app (goodIn_of _ (by decide +kernel)) ggX2_kindsLeft_X8_trueDays
set_option maxRecDepth 20000 in
theorem ggX2_kindsLeft_J6_bitCount_0f7a4 : GoodIn wsX2_kindsLeft wsJ6_bitCount_0f7a4 := goodIn_r _ [8, 9, 10, 11] (by decide +kernel) (by decide +kernel)
set_option maxRecDepth 20000 in
theorem gX2_kindsLeft_J6_bitCount_0f7a4 : GoodIn wsX2_kindsLeft (va_wsS RX2 69 yJ6_bitCount_0f7a4 wsJ6_bitCount_0f7a4) := goodIn_app (goodIn_of _ (by decide +kernel)) ggX2_kindsLeft_J6_bitCount_0f7a4
set_option maxRecDepth 20000 in
theorem ggX2_kindsLeft_X8_casesOfAnyDay : GoodIn wsX2_kindsLeft wsX8_casesOfAnyDay := goodIn_r _ [14] (by decide +kernel) (by decide +kernel)
set_option maxRecDepth 20000 in
theorem gX2_kindsLeft_X8_casesOfAnyDay : GoodIn wsX2_kindsLeft (va_wsS RX2 75 yX8_casesOfAnyDay wsX8_casesOfAnyDay) := goodIn_app (goodIn_of _ (by decide +kernel)) ggX2_kindsLeft_X8_casesOfAnyDay
set_option maxRecDepth 20000 in
theorem ggX2_kindsLeft_X9_isSoInNone : GoodIn wsX2_kindsLeft wsX9_isSoInNone := goodIn_r _ [17, 18, 19, 16, 20, 21] (by decide +kernel) (by decide +kernel)
set_option maxRecDepth 20000 in
theorem gX2_kindsLeft_X9_isSoInNone_n78 : GoodIn wsX2_kindsLeft (wsX9_isSoInNone) := ggX2_kindsLeft_X9_isSoInNone
set_option maxRecDepth 20000 in
theorem ggX2_kindsLeft_X9_isSoInAll : GoodIn wsX2_kindsLeft wsX9_isSoInAll := goodIn_r _ [23, 18, 19, 16, 20, 21] (by decide +kernel) (by decide +kernel)
set_option maxRecDepth 20000 in
theorem gX2_kindsLeft_X9_isSoInAll_n82 : GoodIn wsX2_kindsLeft (wsX9_isSoInAll) := ggX2_kindsLeft_X9_isSoInAll
theorem dX2_kindsLeft_0 : decode cX2_kindsLeft 0 = .ok (.iload_n 1, 1) := by decide +kernel
theorem dX2_kindsLeft_1 : decode cX2_kindsLeft 1 = .ok (.iconst 5, 1) := by decide +kernel
theorem dX2_kindsLeft_2 : decode cX2_kindsLeft 2 = .ok (.if_icmp .ne 11, 3) := by decide +kernel
theorem dX2_kindsLeft_5 : decode cX2_kindsLeft 5 = .ok (.aload_n 0, 1) := by decide +kernel
theorem dX2_kindsLeft_6 : decode cX2_kindsLeft 6 = .ok (.invokestatic 65, 3) := by decide +kernel
theorem dX2_kindsLeft_9 : decode cX2_kindsLeft 9 = .ok (.invokestatic 69, 3) := by decide +kernel
theorem dX2_kindsLeft_12 : decode cX2_kindsLeft 12 = .ok (.ireturn, 1) := by decide +kernel
theorem dX2_kindsLeft_13 : decode cX2_kindsLeft 13 = .ok (.aload_n 0, 1) := by decide +kernel
theorem dX2_kindsLeft_14 : decode cX2_kindsLeft 14 = .ok (.invokestatic 75, 3) := by decide +kernel
theorem dX2_kindsLeft_17 : decode cX2_kindsLeft 17 = .ok (.istore_n 2, 1) := by decide +kernel
theorem dX2_kindsLeft_18 : decode cX2_kindsLeft 18 = .ok (.iload_n 2, 1) := by decide +kernel
theorem dX2_kindsLeft_19 : decode cX2_kindsLeft 19 = .ok (.iload_n 1, 1) := by decide +kernel
theorem dX2_kindsLeft_20 : decode cX2_kindsLeft 20 = .ok (.invokestatic 78, 3) := by decide +kernel
theorem dX2_kindsLeft_23 : decode cX2_kindsLeft 23 = .ok (.ifCond .eq 7, 3) := by decide +kernel
theorem dX2_kindsLeft_26 : decode cX2_kindsLeft 26 = .ok (.iconst 0, 1) := by decide +kernel
theorem dX2_kindsLeft_27 : decode cX2_kindsLeft 27 = .ok (.goto 4, 3) := by decide +kernel
theorem dX2_kindsLeft_30 : decode cX2_kindsLeft 30 = .ok (.iconst 1, 1) := by decide +kernel
theorem dX2_kindsLeft_31 : decode cX2_kindsLeft 31 = .ok (.iload_n 2, 1) := by decide +kernel
theorem dX2_kindsLeft_32 : decode cX2_kindsLeft 32 = .ok (.iload_n 1, 1) := by decide +kernel
theorem dX2_kindsLeft_33 : decode cX2_kindsLeft 33 = .ok (.invokestatic 82, 3) := by decide +kernel
theorem dX2_kindsLeft_36 : decode cX2_kindsLeft 36 = .ok (.ifCond .eq 7, 3) := by decide +kernel
theorem dX2_kindsLeft_39 : decode cX2_kindsLeft 39 = .ok (.iconst 0, 1) := by decide +kernel
theorem dX2_kindsLeft_40 : decode cX2_kindsLeft 40 = .ok (.goto 4, 3) := by decide +kernel
theorem dX2_kindsLeft_43 : decode cX2_kindsLeft 43 = .ok (.iconst 1, 1) := by decide +kernel
theorem dX2_kindsLeft_44 : decode cX2_kindsLeft 44 = .ok (.iadd, 1) := by decide +kernel
theorem dX2_kindsLeft_45 : decode cX2_kindsLeft 45 = .ok (.ireturn, 1) := by decide +kernel
set_option maxRecDepth 20000 in
theorem ggX2_readRow_X1_hasSimple : GoodIn wsX2_readRow wsX1_hasSimple := goodIn_r _ [7, 8, 9, 10, 11, 12, 13, 14, 6, 15, 16, 19, 20, 21, 22, 23] (by decide +kernel) (by decide +kernel)
set_option maxRecDepth 20000 in
theorem gX2_readRow_X1_hasSimple : GoodIn wsX2_readRow (wsV RX2 41 RX1 yX1_hasSimple wsX1_hasSimple) := goodIn_app (goodIn_of _ (by decide +kernel)) ggX2_readRow_X1_hasSimple
theorem dX2_readRow_0 : decode cX2_readRow 0 = .ok (.iload_n 2, 1) := by decide +kernel
theorem dX2_readRow_1 : decode cX2_readRow 1 = .ok (.iconst 1, 1) := by decide +kernel
theorem dX2_readRow_2 : decode cX2_readRow 2 = .ok (.if_icmp .lt 14, 3) := by decide +kernel
theorem dX2_readRow_5 : decode cX2_readRow 5 = .ok (.iload_n 2, 1) := by decide +kernel
theorem dX2_readRow_6 : decode cX2_readRow 6 = .ok (.iconst 5, 1) := by decide +kernel
theorem dX2_readRow_7 : decode cX2_readRow 7 = .ok (.if_icmp .gt 9, 3) := by decide +kernel
theorem dX2_readRow_10 : decode cX2_readRow 10 = .ok (.lload_n 3, 1) := by decide +kernel
theorem dX2_readRow_11 : decode cX2_readRow 11 = .ok (.lconst 0, 1) := by decide +kernel
theorem dX2_readRow_12 : decode cX2_readRow 12 = .ok (.lcmp, 1) := by decide +kernel
theorem dX2_readRow_13 : decode cX2_readRow 13 = .ok (.ifCond .ge 5, 3) := by decide +kernel
theorem dX2_readRow_16 : decode cX2_readRow 16 = .ok (.iconst 0, 1) := by decide +kernel
theorem dX2_readRow_17 : decode cX2_readRow 17 = .ok (.ireturn, 1) := by decide +kernel
theorem dX2_readRow_18 : decode cX2_readRow 18 = .ok (.lload_n 3, 1) := by decide +kernel
theorem dX2_readRow_19 : decode cX2_readRow 19 = .ok (.lstore 5, 2) := by decide +kernel
theorem dX2_readRow_21 : decode cX2_readRow 21 = .ok (.iload_n 2, 1) := by decide +kernel
theorem dX2_readRow_22 : decode cX2_readRow 22 = .ok (.iconst 1, 1) := by decide +kernel
theorem dX2_readRow_23 : decode cX2_readRow 23 = .ok (.isub, 1) := by decide +kernel
theorem dX2_readRow_24 : decode cX2_readRow 24 = .ok (.istore 7, 2) := by decide +kernel
theorem dX2_readRow_26 : decode cX2_readRow 26 = .ok (.iload 7, 2) := by decide +kernel
theorem dX2_readRow_28 : decode cX2_readRow 28 = .ok (.ifCond .lt 46, 3) := by decide +kernel
theorem dX2_readRow_31 : decode cX2_readRow 31 = .ok (.lload 5, 2) := by decide +kernel
theorem dX2_readRow_33 : decode cX2_readRow 33 = .ok (.ldc2_w 85, 3) := by decide +kernel
theorem dX2_readRow_36 : decode cX2_readRow 36 = .ok (.lrem, 1) := by decide +kernel
theorem dX2_readRow_37 : decode cX2_readRow 37 = .ok (.l2i, 1) := by decide +kernel
theorem dX2_readRow_38 : decode cX2_readRow 38 = .ok (.istore 8, 2) := by decide +kernel
theorem dX2_readRow_40 : decode cX2_readRow 40 = .ok (.aload_n 1, 1) := by decide +kernel
theorem dX2_readRow_41 : decode cX2_readRow 41 = .ok (.iload 8, 2) := by decide +kernel
theorem dX2_readRow_43 : decode cX2_readRow 43 = .ok (.invokevirtual 41, 3) := by decide +kernel
theorem dX2_readRow_46 : decode cX2_readRow 46 = .ok (.ifCond .ne 5, 3) := by decide +kernel
theorem dX2_readRow_49 : decode cX2_readRow 49 = .ok (.iconst 0, 1) := by decide +kernel
theorem dX2_readRow_50 : decode cX2_readRow 50 = .ok (.ireturn, 1) := by decide +kernel
theorem dX2_readRow_51 : decode cX2_readRow 51 = .ok (.aload_n 0, 1) := by decide +kernel
theorem dX2_readRow_52 : decode cX2_readRow 52 = .ok (.getfield 16, 3) := by decide +kernel
theorem dX2_readRow_55 : decode cX2_readRow 55 = .ok (.iload 7, 2) := by decide +kernel
theorem dX2_readRow_57 : decode cX2_readRow 57 = .ok (.iload 8, 2) := by decide +kernel
theorem dX2_readRow_59 : decode cX2_readRow 59 = .ok (.iastore, 1) := by decide +kernel
theorem dX2_readRow_60 : decode cX2_readRow 60 = .ok (.lload 5, 2) := by decide +kernel
theorem dX2_readRow_62 : decode cX2_readRow 62 = .ok (.ldc2_w 85, 3) := by decide +kernel
theorem dX2_readRow_65 : decode cX2_readRow 65 = .ok (.ldiv, 1) := by decide +kernel
theorem dX2_readRow_66 : decode cX2_readRow 66 = .ok (.lstore 5, 2) := by decide +kernel
theorem dX2_readRow_68 : decode cX2_readRow 68 = .ok (.iinc 7 (-1), 3) := by decide +kernel
theorem dX2_readRow_71 : decode cX2_readRow 71 = .ok (.goto (-45), 3) := by decide +kernel
theorem dX2_readRow_74 : decode cX2_readRow 74 = .ok (.lload 5, 2) := by decide +kernel
theorem dX2_readRow_76 : decode cX2_readRow 76 = .ok (.lconst 0, 1) := by decide +kernel
theorem dX2_readRow_77 : decode cX2_readRow 77 = .ok (.lcmp, 1) := by decide +kernel
theorem dX2_readRow_78 : decode cX2_readRow 78 = .ok (.ifCond .ne 7, 3) := by decide +kernel
theorem dX2_readRow_81 : decode cX2_readRow 81 = .ok (.iconst 1, 1) := by decide +kernel
theorem dX2_readRow_82 : decode cX2_readRow 82 = .ok (.goto 4, 3) := by decide +kernel
theorem dX2_readRow_85 : decode cX2_readRow 85 = .ok (.iconst 0, 1) := by decide +kernel
theorem dX2_readRow_86 : decode cX2_readRow 86 = .ok (.ireturn, 1) := by decide +kernel
set_option maxRecDepth 20000 in
theorem ggX2_leftBehindRow_X6_answerIn : GoodIn wsX2_leftBehindRow wsX6_answerIn := goodIn_r _ [10, 11, 12, 9, 13, 14, 15, 16, 17, 18, 19, 20, 21, 22, 23, 24, 25, 26, 27, 28, 29, 30, 31, 32] (by decide +kernel) (by decide +kernel)
set_option maxRecDepth 20000 in
theorem gX2_leftBehindRow_X6_answerIn : GoodIn wsX2_leftBehindRow (va_wsS RX2 87 yX6_answerIn wsX6_answerIn) := goodIn_app (goodIn_of _ (by decide +kernel)) ggX2_leftBehindRow_X6_answerIn
set_option maxRecDepth 20000 in
theorem ggX2_leftBehindRow_X8_narrow : GoodIn wsX2_leftBehindRow wsX8_narrow := goodIn_r _ [36, 37, 38, 39, 40, 41, 12, 9, 13, 14, 15, 16, 17, 18, 19, 20, 21, 22, 23, 24, 25, 26, 27, 28, 29, 30] (by decide +kernel) (by decide +kernel)
set_option maxRecDepth 20000 in
theorem gX2_leftBehindRow_X8_narrow : GoodIn wsX2_leftBehindRow (va_wsS RX2 51 yX8_narrow wsX8_narrow) := goodIn_app (goodIn_of _ (by decide +kernel)) ggX2_leftBehindRow_X8_narrow
set_option maxRecDepth 20000 in
theorem ggX2_leftBehindRow_X8_count : GoodIn wsX2_leftBehindRow wsX8_count := goodIn_r _ [44, 45, 46, 47, 48, 49, 50, 51] (by decide +kernel) (by decide +kernel)
set_option maxRecDepth 20000 in
theorem gX2_leftBehindRow_X8_count : GoodIn wsX2_leftBehindRow (va_wsS RX2 91 yX8_count wsX8_count) := goodIn_app (goodIn_of _ (by decide +kernel)) ggX2_leftBehindRow_X8_count
theorem dX2_leftBehindRow_0 : decode cX2_leftBehindRow 0 = .ok (.aload_n 0, 1) := by decide +kernel
theorem dX2_leftBehindRow_1 : decode cX2_leftBehindRow 1 = .ok (.getfield 11, 3) := by decide +kernel
theorem dX2_leftBehindRow_4 : decode cX2_leftBehindRow 4 = .ok (.iconst 0, 1) := by decide +kernel
theorem dX2_leftBehindRow_5 : decode cX2_leftBehindRow 5 = .ok (.aaload, 1) := by decide +kernel
theorem dX2_leftBehindRow_6 : decode cX2_leftBehindRow 6 = .ok (.astore 5, 2) := by decide +kernel
theorem dX2_leftBehindRow_8 : decode cX2_leftBehindRow 8 = .ok (.aload_n 1, 1) := by decide +kernel
theorem dX2_leftBehindRow_9 : decode cX2_leftBehindRow 9 = .ok (.getfield 20, 3) := by decide +kernel
theorem dX2_leftBehindRow_12 : decode cX2_leftBehindRow 12 = .ok (.iconst 0, 1) := by decide +kernel
theorem dX2_leftBehindRow_13 : decode cX2_leftBehindRow 13 = .ok (.aload 5, 2) := by decide +kernel
theorem dX2_leftBehindRow_15 : decode cX2_leftBehindRow 15 = .ok (.iconst 0, 1) := by decide +kernel
theorem dX2_leftBehindRow_16 : decode cX2_leftBehindRow 16 = .ok (.bipush 7, 2) := by decide +kernel
theorem dX2_leftBehindRow_18 : decode cX2_leftBehindRow 18 = .ok (.invokestatic 25, 3) := by decide +kernel
theorem dX2_leftBehindRow_21 : decode cX2_leftBehindRow 21 = .ok (.iconst 0, 1) := by decide +kernel
theorem dX2_leftBehindRow_22 : decode cX2_leftBehindRow 22 = .ok (.istore 6, 2) := by decide +kernel
theorem dX2_leftBehindRow_24 : decode cX2_leftBehindRow 24 = .ok (.iload 6, 2) := by decide +kernel
theorem dX2_leftBehindRow_26 : decode cX2_leftBehindRow 26 = .ok (.iload_n 2, 1) := by decide +kernel
theorem dX2_leftBehindRow_27 : decode cX2_leftBehindRow 27 = .ok (.if_icmp .ge 62, 3) := by decide +kernel
theorem dX2_leftBehindRow_30 : decode cX2_leftBehindRow 30 = .ok (.iload 6, 2) := by decide +kernel
theorem dX2_leftBehindRow_32 : decode cX2_leftBehindRow 32 = .ok (.iconst 5, 1) := by decide +kernel
theorem dX2_leftBehindRow_33 : decode cX2_leftBehindRow 33 = .ok (.if_icmp .ge 56, 3) := by decide +kernel
theorem dX2_leftBehindRow_36 : decode cX2_leftBehindRow 36 = .ok (.aload_n 1, 1) := by decide +kernel
theorem dX2_leftBehindRow_37 : decode cX2_leftBehindRow 37 = .ok (.getfield 31, 3) := by decide +kernel
theorem dX2_leftBehindRow_40 : decode cX2_leftBehindRow 40 = .ok (.iload 6, 2) := by decide +kernel
theorem dX2_leftBehindRow_42 : decode cX2_leftBehindRow 42 = .ok (.iadd, 1) := by decide +kernel
theorem dX2_leftBehindRow_43 : decode cX2_leftBehindRow 43 = .ok (.bipush 7, 2) := by decide +kernel
theorem dX2_leftBehindRow_45 : decode cX2_leftBehindRow 45 = .ok (.irem, 1) := by decide +kernel
theorem dX2_leftBehindRow_46 : decode cX2_leftBehindRow 46 = .ok (.istore 7, 2) := by decide +kernel
theorem dX2_leftBehindRow_48 : decode cX2_leftBehindRow 48 = .ok (.aload_n 0, 1) := by decide +kernel
theorem dX2_leftBehindRow_49 : decode cX2_leftBehindRow 49 = .ok (.getfield 16, 3) := by decide +kernel
theorem dX2_leftBehindRow_52 : decode cX2_leftBehindRow 52 = .ok (.iload 6, 2) := by decide +kernel
theorem dX2_leftBehindRow_54 : decode cX2_leftBehindRow 54 = .ok (.iaload, 1) := by decide +kernel
theorem dX2_leftBehindRow_55 : decode cX2_leftBehindRow 55 = .ok (.iload 7, 2) := by decide +kernel
theorem dX2_leftBehindRow_57 : decode cX2_leftBehindRow 57 = .ok (.iload_n 3, 1) := by decide +kernel
theorem dX2_leftBehindRow_58 : decode cX2_leftBehindRow 58 = .ok (.iload 4, 2) := by decide +kernel
theorem dX2_leftBehindRow_60 : decode cX2_leftBehindRow 60 = .ok (.invokestatic 87, 3) := by decide +kernel
theorem dX2_leftBehindRow_63 : decode cX2_leftBehindRow 63 = .ok (.istore 8, 2) := by decide +kernel
theorem dX2_leftBehindRow_65 : decode cX2_leftBehindRow 65 = .ok (.aload 5, 2) := by decide +kernel
theorem dX2_leftBehindRow_67 : decode cX2_leftBehindRow 67 = .ok (.aload 5, 2) := by decide +kernel
theorem dX2_leftBehindRow_69 : decode cX2_leftBehindRow 69 = .ok (.aload_n 0, 1) := by decide +kernel
theorem dX2_leftBehindRow_70 : decode cX2_leftBehindRow 70 = .ok (.getfield 16, 3) := by decide +kernel
theorem dX2_leftBehindRow_73 : decode cX2_leftBehindRow 73 = .ok (.iload 6, 2) := by decide +kernel
theorem dX2_leftBehindRow_75 : decode cX2_leftBehindRow 75 = .ok (.iaload, 1) := by decide +kernel
theorem dX2_leftBehindRow_76 : decode cX2_leftBehindRow 76 = .ok (.iload 8, 2) := by decide +kernel
theorem dX2_leftBehindRow_78 : decode cX2_leftBehindRow 78 = .ok (.iload 7, 2) := by decide +kernel
theorem dX2_leftBehindRow_80 : decode cX2_leftBehindRow 80 = .ok (.invokestatic 51, 3) := by decide +kernel
theorem dX2_leftBehindRow_83 : decode cX2_leftBehindRow 83 = .ok (.iinc 6 1, 3) := by decide +kernel
theorem dX2_leftBehindRow_86 : decode cX2_leftBehindRow 86 = .ok (.goto (-62), 3) := by decide +kernel
theorem dX2_leftBehindRow_89 : decode cX2_leftBehindRow 89 = .ok (.aload 5, 2) := by decide +kernel
theorem dX2_leftBehindRow_91 : decode cX2_leftBehindRow 91 = .ok (.invokestatic 91, 3) := by decide +kernel
theorem dX2_leftBehindRow_94 : decode cX2_leftBehindRow 94 = .ok (.ireturn, 1) := by decide +kernel
theorem dX3_init_0 : decode cX3_init 0 = .ok (.aload_n 0, 1) := by decide +kernel
theorem dX3_init_1 : decode cX3_init 1 = .ok (.invokespecial 3, 3) := by decide +kernel
theorem dX3_init_4 : decode cX3_init 4 = .ok (.aload_n 0, 1) := by decide +kernel
theorem dX3_init_5 : decode cX3_init 5 = .ok (.iconst 0, 1) := by decide +kernel
theorem dX3_init_6 : decode cX3_init 6 = .ok (.iload_n 1, 1) := by decide +kernel
theorem dX3_init_7 : decode cX3_init 7 = .ok (.invokestatic 9, 3) := by decide +kernel
theorem dX3_init_10 : decode cX3_init 10 = .ok (.newarray .int, 2) := by decide +kernel
theorem dX3_init_12 : decode cX3_init 12 = .ok (.putfield 15, 3) := by decide +kernel
theorem dX3_init_15 : decode cX3_init 15 = .ok (.return_, 1) := by decide +kernel
theorem dX3_append_0 : decode cX3_append 0 = .ok (.iload_n 1, 1) := by decide +kernel
theorem dX3_append_1 : decode cX3_append 1 = .ok (.ifCond .lt 10, 3) := by decide +kernel
theorem dX3_append_4 : decode cX3_append 4 = .ok (.iload_n 1, 1) := by decide +kernel
theorem dX3_append_5 : decode cX3_append 5 = .ok (.sipush 255, 3) := by decide +kernel
theorem dX3_append_8 : decode cX3_append 8 = .ok (.if_icmp .le 6, 3) := by decide +kernel
theorem dX3_append_11 : decode cX3_append 11 = .ok (.bipush (-2), 2) := by decide +kernel
theorem dX3_append_13 : decode cX3_append 13 = .ok (.ireturn, 1) := by decide +kernel
theorem dX3_append_14 : decode cX3_append 14 = .ok (.aload_n 0, 1) := by decide +kernel
theorem dX3_append_15 : decode cX3_append 15 = .ok (.getfield 21, 3) := by decide +kernel
theorem dX3_append_18 : decode cX3_append 18 = .ok (.aload_n 0, 1) := by decide +kernel
theorem dX3_append_19 : decode cX3_append 19 = .ok (.getfield 15, 3) := by decide +kernel
theorem dX3_append_22 : decode cX3_append 22 = .ok (.arraylength, 1) := by decide +kernel
theorem dX3_append_23 : decode cX3_append 23 = .ok (.if_icmp .lt 6, 3) := by decide +kernel
theorem dX3_append_26 : decode cX3_append 26 = .ok (.bipush (-4), 2) := by decide +kernel
theorem dX3_append_28 : decode cX3_append 28 = .ok (.ireturn, 1) := by decide +kernel
theorem dX3_append_29 : decode cX3_append 29 = .ok (.aload_n 0, 1) := by decide +kernel
theorem dX3_append_30 : decode cX3_append 30 = .ok (.getfield 15, 3) := by decide +kernel
theorem dX3_append_33 : decode cX3_append 33 = .ok (.aload_n 0, 1) := by decide +kernel
theorem dX3_append_34 : decode cX3_append 34 = .ok (.getfield 21, 3) := by decide +kernel
theorem dX3_append_37 : decode cX3_append 37 = .ok (.iload_n 1, 1) := by decide +kernel
theorem dX3_append_38 : decode cX3_append 38 = .ok (.iastore, 1) := by decide +kernel
theorem dX3_append_39 : decode cX3_append 39 = .ok (.aload_n 0, 1) := by decide +kernel
theorem dX3_append_40 : decode cX3_append 40 = .ok (.dup, 1) := by decide +kernel
theorem dX3_append_41 : decode cX3_append 41 = .ok (.getfield 21, 3) := by decide +kernel
theorem dX3_append_44 : decode cX3_append 44 = .ok (.iconst 1, 1) := by decide +kernel
theorem dX3_append_45 : decode cX3_append 45 = .ok (.iadd, 1) := by decide +kernel
theorem dX3_append_46 : decode cX3_append 46 = .ok (.putfield 21, 3) := by decide +kernel
theorem dX3_append_49 : decode cX3_append 49 = .ok (.aload_n 0, 1) := by decide +kernel
theorem dX3_append_50 : decode cX3_append 50 = .ok (.getfield 21, 3) := by decide +kernel
theorem dX3_append_53 : decode cX3_append 53 = .ok (.ireturn, 1) := by decide +kernel
theorem dX3_empty_0 : decode cX3_empty 0 = .ok (.aload_n 0, 1) := by decide +kernel
theorem dX3_empty_1 : decode cX3_empty 1 = .ok (.getfield 21, 3) := by decide +kernel
theorem dX3_empty_4 : decode cX3_empty 4 = .ok (.istore_n 1, 1) := by decide +kernel
theorem dX3_empty_5 : decode cX3_empty 5 = .ok (.aload_n 0, 1) := by decide +kernel
theorem dX3_empty_6 : decode cX3_empty 6 = .ok (.iconst 0, 1) := by decide +kernel
theorem dX3_empty_7 : decode cX3_empty 7 = .ok (.putfield 21, 3) := by decide +kernel
theorem dX3_empty_10 : decode cX3_empty 10 = .ok (.iload_n 1, 1) := by decide +kernel
theorem dX3_empty_11 : decode cX3_empty 11 = .ok (.ireturn, 1) := by decide +kernel
theorem dX3_at_0 : decode cX3_at 0 = .ok (.iload_n 1, 1) := by decide +kernel
theorem dX3_at_1 : decode cX3_at 1 = .ok (.ifCond .lt 20, 3) := by decide +kernel
theorem dX3_at_4 : decode cX3_at 4 = .ok (.iload_n 1, 1) := by decide +kernel
theorem dX3_at_5 : decode cX3_at 5 = .ok (.aload_n 0, 1) := by decide +kernel
theorem dX3_at_6 : decode cX3_at 6 = .ok (.getfield 21, 3) := by decide +kernel
theorem dX3_at_9 : decode cX3_at 9 = .ok (.if_icmp .ge 12, 3) := by decide +kernel
theorem dX3_at_12 : decode cX3_at 12 = .ok (.aload_n 0, 1) := by decide +kernel
theorem dX3_at_13 : decode cX3_at 13 = .ok (.getfield 15, 3) := by decide +kernel
theorem dX3_at_16 : decode cX3_at 16 = .ok (.iload_n 1, 1) := by decide +kernel
theorem dX3_at_17 : decode cX3_at 17 = .ok (.iaload, 1) := by decide +kernel
theorem dX3_at_18 : decode cX3_at 18 = .ok (.goto 5, 3) := by decide +kernel
theorem dX3_at_21 : decode cX3_at 21 = .ok (.bipush (-9), 2) := by decide +kernel
theorem dX3_at_23 : decode cX3_at 23 = .ok (.ireturn, 1) := by decide +kernel
theorem dX4_init_0 : decode cX4_init 0 = .ok (.aload_n 0, 1) := by decide +kernel
theorem dX4_init_1 : decode cX4_init 1 = .ok (.invokespecial 3, 3) := by decide +kernel
theorem dX4_init_4 : decode cX4_init 4 = .ok (.aload_n 0, 1) := by decide +kernel
theorem dX4_init_5 : decode cX4_init 5 = .ok (.bipush 7, 2) := by decide +kernel
theorem dX4_init_7 : decode cX4_init 7 = .ok (.newarray .int, 2) := by decide +kernel
theorem dX4_init_9 : decode cX4_init 9 = .ok (.putfield 9, 3) := by decide +kernel
theorem dX4_init_12 : decode cX4_init 12 = .ok (.return_, 1) := by decide +kernel
set_option maxRecDepth 20000 in
theorem ggX4_begin_X8_fill : GoodIn wsX4_begin wsX8_fill := goodIn_r _ [10] (by decide +kernel) (by decide +kernel)
set_option maxRecDepth 20000 in
theorem gX4_begin_X8_fill : GoodIn wsX4_begin (va_wsS RX4 32 yX8_fill wsX8_fill) := goodIn_app (goodIn_of _ (by decide +kernel)) ggX4_begin_X8_fill
theorem dX4_begin_0 : decode cX4_begin 0 = .ok (.aload_n 0, 1) := by decide +kernel
theorem dX4_begin_1 : decode cX4_begin 1 = .ok (.iconst 0, 1) := by decide +kernel
theorem dX4_begin_2 : decode cX4_begin 2 = .ok (.putfield 15, 3) := by decide +kernel
theorem dX4_begin_5 : decode cX4_begin 5 = .ok (.aload_n 0, 1) := by decide +kernel
theorem dX4_begin_6 : decode cX4_begin 6 = .ok (.iload_n 1, 1) := by decide +kernel
theorem dX4_begin_7 : decode cX4_begin 7 = .ok (.putfield 19, 3) := by decide +kernel
theorem dX4_begin_10 : decode cX4_begin 10 = .ok (.aload_n 0, 1) := by decide +kernel
theorem dX4_begin_11 : decode cX4_begin 11 = .ok (.iconst 0, 1) := by decide +kernel
theorem dX4_begin_12 : decode cX4_begin 12 = .ok (.putfield 22, 3) := by decide +kernel
theorem dX4_begin_15 : decode cX4_begin 15 = .ok (.aload_n 0, 1) := by decide +kernel
theorem dX4_begin_16 : decode cX4_begin 16 = .ok (.iconst 0, 1) := by decide +kernel
theorem dX4_begin_17 : decode cX4_begin 17 = .ok (.putfield 26, 3) := by decide +kernel
theorem dX4_begin_20 : decode cX4_begin 20 = .ok (.aload_n 0, 1) := by decide +kernel
theorem dX4_begin_21 : decode cX4_begin 21 = .ok (.iconst 0, 1) := by decide +kernel
theorem dX4_begin_22 : decode cX4_begin 22 = .ok (.putfield 29, 3) := by decide +kernel
theorem dX4_begin_25 : decode cX4_begin 25 = .ok (.aload_n 0, 1) := by decide +kernel
theorem dX4_begin_26 : decode cX4_begin 26 = .ok (.getfield 9, 3) := by decide +kernel
theorem dX4_begin_29 : decode cX4_begin 29 = .ok (.iload_n 2, 1) := by decide +kernel
theorem dX4_begin_30 : decode cX4_begin 30 = .ok (.invokestatic 32, 3) := by decide +kernel
theorem dX4_begin_33 : decode cX4_begin 33 = .ok (.return_, 1) := by decide +kernel
theorem dX4_weekday_0 : decode cX4_weekday 0 = .ok (.aload_n 0, 1) := by decide +kernel
theorem dX4_weekday_1 : decode cX4_weekday 1 = .ok (.getfield 15, 3) := by decide +kernel
theorem dX4_weekday_4 : decode cX4_weekday 4 = .ok (.bipush 7, 2) := by decide +kernel
theorem dX4_weekday_6 : decode cX4_weekday 6 = .ok (.irem, 1) := by decide +kernel
theorem dX4_weekday_7 : decode cX4_weekday 7 = .ok (.ireturn, 1) := by decide +kernel
theorem dX4_canBeAsked_0 : decode cX4_canBeAsked 0 = .ok (.aload_n 0, 1) := by decide +kernel
theorem dX4_canBeAsked_1 : decode cX4_canBeAsked 1 = .ok (.getfield 22, 3) := by decide +kernel
theorem dX4_canBeAsked_4 : decode cX4_canBeAsked 4 = .ok (.ifCond .ne 22, 3) := by decide +kernel
theorem dX4_canBeAsked_7 : decode cX4_canBeAsked 7 = .ok (.aload_n 0, 1) := by decide +kernel
theorem dX4_canBeAsked_8 : decode cX4_canBeAsked 8 = .ok (.getfield 26, 3) := by decide +kernel
theorem dX4_canBeAsked_11 : decode cX4_canBeAsked 11 = .ok (.ifCond .ne 15, 3) := by decide +kernel
theorem dX4_canBeAsked_14 : decode cX4_canBeAsked 14 = .ok (.aload_n 0, 1) := by decide +kernel
theorem dX4_canBeAsked_15 : decode cX4_canBeAsked 15 = .ok (.getfield 29, 3) := by decide +kernel
theorem dX4_canBeAsked_18 : decode cX4_canBeAsked 18 = .ok (.iconst 3, 1) := by decide +kernel
theorem dX4_canBeAsked_19 : decode cX4_canBeAsked 19 = .ok (.if_icmp .ge 7, 3) := by decide +kernel
theorem dX4_canBeAsked_22 : decode cX4_canBeAsked 22 = .ok (.iconst 1, 1) := by decide +kernel
theorem dX4_canBeAsked_23 : decode cX4_canBeAsked 23 = .ok (.goto 4, 3) := by decide +kernel
theorem dX4_canBeAsked_26 : decode cX4_canBeAsked 26 = .ok (.iconst 0, 1) := by decide +kernel
theorem dX4_canBeAsked_27 : decode cX4_canBeAsked 27 = .ok (.ireturn, 1) := by decide +kernel
theorem dX4_dayGoesBy_0 : decode cX4_dayGoesBy 0 = .ok (.aload_n 0, 1) := by decide +kernel
theorem dX4_dayGoesBy_1 : decode cX4_dayGoesBy 1 = .ok (.aload_n 0, 1) := by decide +kernel
theorem dX4_dayGoesBy_2 : decode cX4_dayGoesBy 2 = .ok (.getfield 15, 3) := by decide +kernel
theorem dX4_dayGoesBy_5 : decode cX4_dayGoesBy 5 = .ok (.iconst 1, 1) := by decide +kernel
theorem dX4_dayGoesBy_6 : decode cX4_dayGoesBy 6 = .ok (.iadd, 1) := by decide +kernel
theorem dX4_dayGoesBy_7 : decode cX4_dayGoesBy 7 = .ok (.bipush 28, 2) := by decide +kernel
theorem dX4_dayGoesBy_9 : decode cX4_dayGoesBy 9 = .ok (.irem, 1) := by decide +kernel
theorem dX4_dayGoesBy_10 : decode cX4_dayGoesBy 10 = .ok (.putfield 15, 3) := by decide +kernel
theorem dX4_dayGoesBy_13 : decode cX4_dayGoesBy 13 = .ok (.aload_n 0, 1) := by decide +kernel
theorem dX4_dayGoesBy_14 : decode cX4_dayGoesBy 14 = .ok (.iconst 0, 1) := by decide +kernel
theorem dX4_dayGoesBy_15 : decode cX4_dayGoesBy 15 = .ok (.putfield 22, 3) := by decide +kernel
theorem dX4_dayGoesBy_18 : decode cX4_dayGoesBy 18 = .ok (.aload_n 0, 1) := by decide +kernel
theorem dX4_dayGoesBy_19 : decode cX4_dayGoesBy 19 = .ok (.getfield 26, 3) := by decide +kernel
theorem dX4_dayGoesBy_22 : decode cX4_dayGoesBy 22 = .ok (.iconst 2, 1) := by decide +kernel
theorem dX4_dayGoesBy_23 : decode cX4_dayGoesBy 23 = .ok (.if_icmp .ne 8, 3) := by decide +kernel
theorem dX4_dayGoesBy_26 : decode cX4_dayGoesBy 26 = .ok (.aload_n 0, 1) := by decide +kernel
theorem dX4_dayGoesBy_27 : decode cX4_dayGoesBy 27 = .ok (.iconst 0, 1) := by decide +kernel
theorem dX4_dayGoesBy_28 : decode cX4_dayGoesBy 28 = .ok (.putfield 26, 3) := by decide +kernel
theorem dX4_dayGoesBy_31 : decode cX4_dayGoesBy 31 = .ok (.aload_n 0, 1) := by decide +kernel
theorem dX4_dayGoesBy_32 : decode cX4_dayGoesBy 32 = .ok (.getfield 15, 3) := by decide +kernel
theorem dX4_dayGoesBy_35 : decode cX4_dayGoesBy 35 = .ok (.ifCond .ne 7, 3) := by decide +kernel
theorem dX4_dayGoesBy_38 : decode cX4_dayGoesBy 38 = .ok (.iconst 1, 1) := by decide +kernel
theorem dX4_dayGoesBy_39 : decode cX4_dayGoesBy 39 = .ok (.goto 4, 3) := by decide +kernel
theorem dX4_dayGoesBy_42 : decode cX4_dayGoesBy 42 = .ok (.iconst 0, 1) := by decide +kernel
theorem dX4_dayGoesBy_43 : decode cX4_dayGoesBy 43 = .ok (.ireturn, 1) := by decide +kernel
set_option maxRecDepth 20000 in
theorem ggX4_beginMonth_X8_casesOfAnyDay : GoodIn wsX4_beginMonth wsX8_casesOfAnyDay := goodIn_r _ [6] (by decide +kernel) (by decide +kernel)
set_option maxRecDepth 20000 in
theorem gX4_beginMonth_X8_casesOfAnyDay : GoodIn wsX4_beginMonth (va_wsS RX4 38 yX8_casesOfAnyDay wsX8_casesOfAnyDay) := goodIn_app (goodIn_of _ (by decide +kernel)) ggX4_beginMonth_X8_casesOfAnyDay
set_option maxRecDepth 20000 in
theorem ggX4_beginMonth_X8_fill : GoodIn wsX4_beginMonth wsX8_fill := goodIn_r _ [9] (by decide +kernel) (by decide +kernel)
set_option maxRecDepth 20000 in
theorem gX4_beginMonth_X8_fill : GoodIn wsX4_beginMonth (va_wsS RX4 32 yX8_fill wsX8_fill) := goodIn_app (goodIn_of _ (by decide +kernel)) ggX4_beginMonth_X8_fill
theorem dX4_beginMonth_0 : decode cX4_beginMonth 0 = .ok (.aload_n 0, 1) := by decide +kernel
theorem dX4_beginMonth_1 : decode cX4_beginMonth 1 = .ok (.iload_n 1, 1) := by decide +kernel
theorem dX4_beginMonth_2 : decode cX4_beginMonth 2 = .ok (.putfield 19, 3) := by decide +kernel
theorem dX4_beginMonth_5 : decode cX4_beginMonth 5 = .ok (.aload_n 0, 1) := by decide +kernel
theorem dX4_beginMonth_6 : decode cX4_beginMonth 6 = .ok (.getfield 9, 3) := by decide +kernel
theorem dX4_beginMonth_9 : decode cX4_beginMonth 9 = .ok (.aload_n 0, 1) := by decide +kernel
theorem dX4_beginMonth_10 : decode cX4_beginMonth 10 = .ok (.getfield 9, 3) := by decide +kernel
theorem dX4_beginMonth_13 : decode cX4_beginMonth 13 = .ok (.invokestatic 38, 3) := by decide +kernel
theorem dX4_beginMonth_16 : decode cX4_beginMonth 16 = .ok (.invokestatic 32, 3) := by decide +kernel
theorem dX4_beginMonth_19 : decode cX4_beginMonth 19 = .ok (.return_, 1) := by decide +kernel
theorem dX4_saveTo_0 : decode cX4_saveTo 0 = .ok (.iload_n 2, 1) := by decide +kernel
theorem dX4_saveTo_1 : decode cX4_saveTo 1 = .ok (.bipush 12, 2) := by decide +kernel
theorem dX4_saveTo_3 : decode cX4_saveTo 3 = .ok (.imul, 1) := by decide +kernel
theorem dX4_saveTo_4 : decode cX4_saveTo 4 = .ok (.istore_n 3, 1) := by decide +kernel
theorem dX4_saveTo_5 : decode cX4_saveTo 5 = .ok (.iload_n 3, 1) := by decide +kernel
theorem dX4_saveTo_6 : decode cX4_saveTo 6 = .ok (.ifCond .lt 12, 3) := by decide +kernel
theorem dX4_saveTo_9 : decode cX4_saveTo 9 = .ok (.iload_n 3, 1) := by decide +kernel
theorem dX4_saveTo_10 : decode cX4_saveTo 10 = .ok (.bipush 12, 2) := by decide +kernel
theorem dX4_saveTo_12 : decode cX4_saveTo 12 = .ok (.iadd, 1) := by decide +kernel
theorem dX4_saveTo_13 : decode cX4_saveTo 13 = .ok (.aload_n 1, 1) := by decide +kernel
theorem dX4_saveTo_14 : decode cX4_saveTo 14 = .ok (.arraylength, 1) := by decide +kernel
theorem dX4_saveTo_15 : decode cX4_saveTo 15 = .ok (.if_icmp .le 4, 3) := by decide +kernel
theorem dX4_saveTo_18 : decode cX4_saveTo 18 = .ok (.return_, 1) := by decide +kernel
theorem dX4_saveTo_19 : decode cX4_saveTo 19 = .ok (.aload_n 1, 1) := by decide +kernel
theorem dX4_saveTo_20 : decode cX4_saveTo 20 = .ok (.iload_n 3, 1) := by decide +kernel
theorem dX4_saveTo_21 : decode cX4_saveTo 21 = .ok (.aload_n 0, 1) := by decide +kernel
theorem dX4_saveTo_22 : decode cX4_saveTo 22 = .ok (.getfield 15, 3) := by decide +kernel
theorem dX4_saveTo_25 : decode cX4_saveTo 25 = .ok (.iastore, 1) := by decide +kernel
theorem dX4_saveTo_26 : decode cX4_saveTo 26 = .ok (.aload_n 1, 1) := by decide +kernel
theorem dX4_saveTo_27 : decode cX4_saveTo 27 = .ok (.iload_n 3, 1) := by decide +kernel
theorem dX4_saveTo_28 : decode cX4_saveTo 28 = .ok (.iconst 1, 1) := by decide +kernel
theorem dX4_saveTo_29 : decode cX4_saveTo 29 = .ok (.iadd, 1) := by decide +kernel
theorem dX4_saveTo_30 : decode cX4_saveTo 30 = .ok (.aload_n 0, 1) := by decide +kernel
theorem dX4_saveTo_31 : decode cX4_saveTo 31 = .ok (.getfield 19, 3) := by decide +kernel
theorem dX4_saveTo_34 : decode cX4_saveTo 34 = .ok (.iastore, 1) := by decide +kernel
theorem dX4_saveTo_35 : decode cX4_saveTo 35 = .ok (.aload_n 1, 1) := by decide +kernel
theorem dX4_saveTo_36 : decode cX4_saveTo 36 = .ok (.iload_n 3, 1) := by decide +kernel
theorem dX4_saveTo_37 : decode cX4_saveTo 37 = .ok (.iconst 2, 1) := by decide +kernel
theorem dX4_saveTo_38 : decode cX4_saveTo 38 = .ok (.iadd, 1) := by decide +kernel
theorem dX4_saveTo_39 : decode cX4_saveTo 39 = .ok (.aload_n 0, 1) := by decide +kernel
theorem dX4_saveTo_40 : decode cX4_saveTo 40 = .ok (.getfield 22, 3) := by decide +kernel
theorem dX4_saveTo_43 : decode cX4_saveTo 43 = .ok (.ifCond .eq 7, 3) := by decide +kernel
theorem dX4_saveTo_46 : decode cX4_saveTo 46 = .ok (.iconst 1, 1) := by decide +kernel
theorem dX4_saveTo_47 : decode cX4_saveTo 47 = .ok (.goto 4, 3) := by decide +kernel
theorem dX4_saveTo_50 : decode cX4_saveTo 50 = .ok (.iconst 0, 1) := by decide +kernel
theorem dX4_saveTo_51 : decode cX4_saveTo 51 = .ok (.iastore, 1) := by decide +kernel
theorem dX4_saveTo_52 : decode cX4_saveTo 52 = .ok (.aload_n 1, 1) := by decide +kernel
theorem dX4_saveTo_53 : decode cX4_saveTo 53 = .ok (.iload_n 3, 1) := by decide +kernel
theorem dX4_saveTo_54 : decode cX4_saveTo 54 = .ok (.iconst 3, 1) := by decide +kernel
theorem dX4_saveTo_55 : decode cX4_saveTo 55 = .ok (.iadd, 1) := by decide +kernel
theorem dX4_saveTo_56 : decode cX4_saveTo 56 = .ok (.aload_n 0, 1) := by decide +kernel
theorem dX4_saveTo_57 : decode cX4_saveTo 57 = .ok (.getfield 26, 3) := by decide +kernel
theorem dX4_saveTo_60 : decode cX4_saveTo 60 = .ok (.iastore, 1) := by decide +kernel
theorem dX4_saveTo_61 : decode cX4_saveTo 61 = .ok (.aload_n 1, 1) := by decide +kernel
theorem dX4_saveTo_62 : decode cX4_saveTo 62 = .ok (.iload_n 3, 1) := by decide +kernel
theorem dX4_saveTo_63 : decode cX4_saveTo 63 = .ok (.iconst 4, 1) := by decide +kernel
theorem dX4_saveTo_64 : decode cX4_saveTo 64 = .ok (.iadd, 1) := by decide +kernel
theorem dX4_saveTo_65 : decode cX4_saveTo 65 = .ok (.aload_n 0, 1) := by decide +kernel
theorem dX4_saveTo_66 : decode cX4_saveTo 66 = .ok (.getfield 29, 3) := by decide +kernel
theorem dX4_saveTo_69 : decode cX4_saveTo 69 = .ok (.iastore, 1) := by decide +kernel
theorem dX4_saveTo_70 : decode cX4_saveTo 70 = .ok (.aload_n 0, 1) := by decide +kernel
theorem dX4_saveTo_71 : decode cX4_saveTo 71 = .ok (.getfield 9, 3) := by decide +kernel
theorem dX4_saveTo_74 : decode cX4_saveTo 74 = .ok (.iconst 0, 1) := by decide +kernel
theorem dX4_saveTo_75 : decode cX4_saveTo 75 = .ok (.aload_n 1, 1) := by decide +kernel
theorem dX4_saveTo_76 : decode cX4_saveTo 76 = .ok (.iload_n 3, 1) := by decide +kernel
theorem dX4_saveTo_77 : decode cX4_saveTo 77 = .ok (.iconst 5, 1) := by decide +kernel
theorem dX4_saveTo_78 : decode cX4_saveTo 78 = .ok (.iadd, 1) := by decide +kernel
theorem dX4_saveTo_79 : decode cX4_saveTo 79 = .ok (.bipush 7, 2) := by decide +kernel
theorem dX4_saveTo_81 : decode cX4_saveTo 81 = .ok (.invokestatic 42, 3) := by decide +kernel
theorem dX4_saveTo_84 : decode cX4_saveTo 84 = .ok (.return_, 1) := by decide +kernel
theorem dX4_loadFrom_0 : decode cX4_loadFrom 0 = .ok (.iload_n 2, 1) := by decide +kernel
theorem dX4_loadFrom_1 : decode cX4_loadFrom 1 = .ok (.bipush 12, 2) := by decide +kernel
theorem dX4_loadFrom_3 : decode cX4_loadFrom 3 = .ok (.imul, 1) := by decide +kernel
theorem dX4_loadFrom_4 : decode cX4_loadFrom 4 = .ok (.istore_n 3, 1) := by decide +kernel
theorem dX4_loadFrom_5 : decode cX4_loadFrom 5 = .ok (.iload_n 3, 1) := by decide +kernel
theorem dX4_loadFrom_6 : decode cX4_loadFrom 6 = .ok (.ifCond .lt 12, 3) := by decide +kernel
theorem dX4_loadFrom_9 : decode cX4_loadFrom 9 = .ok (.iload_n 3, 1) := by decide +kernel
theorem dX4_loadFrom_10 : decode cX4_loadFrom 10 = .ok (.bipush 12, 2) := by decide +kernel
theorem dX4_loadFrom_12 : decode cX4_loadFrom 12 = .ok (.iadd, 1) := by decide +kernel
theorem dX4_loadFrom_13 : decode cX4_loadFrom 13 = .ok (.aload_n 1, 1) := by decide +kernel
theorem dX4_loadFrom_14 : decode cX4_loadFrom 14 = .ok (.arraylength, 1) := by decide +kernel
theorem dX4_loadFrom_15 : decode cX4_loadFrom 15 = .ok (.if_icmp .le 4, 3) := by decide +kernel
theorem dX4_loadFrom_18 : decode cX4_loadFrom 18 = .ok (.return_, 1) := by decide +kernel
theorem dX4_loadFrom_19 : decode cX4_loadFrom 19 = .ok (.aload_n 0, 1) := by decide +kernel
theorem dX4_loadFrom_20 : decode cX4_loadFrom 20 = .ok (.aload_n 1, 1) := by decide +kernel
theorem dX4_loadFrom_21 : decode cX4_loadFrom 21 = .ok (.iload_n 3, 1) := by decide +kernel
theorem dX4_loadFrom_22 : decode cX4_loadFrom 22 = .ok (.iaload, 1) := by decide +kernel
theorem dX4_loadFrom_23 : decode cX4_loadFrom 23 = .ok (.putfield 15, 3) := by decide +kernel
theorem dX4_loadFrom_26 : decode cX4_loadFrom 26 = .ok (.aload_n 0, 1) := by decide +kernel
theorem dX4_loadFrom_27 : decode cX4_loadFrom 27 = .ok (.aload_n 1, 1) := by decide +kernel
theorem dX4_loadFrom_28 : decode cX4_loadFrom 28 = .ok (.iload_n 3, 1) := by decide +kernel
theorem dX4_loadFrom_29 : decode cX4_loadFrom 29 = .ok (.iconst 1, 1) := by decide +kernel
theorem dX4_loadFrom_30 : decode cX4_loadFrom 30 = .ok (.iadd, 1) := by decide +kernel
theorem dX4_loadFrom_31 : decode cX4_loadFrom 31 = .ok (.iaload, 1) := by decide +kernel
theorem dX4_loadFrom_32 : decode cX4_loadFrom 32 = .ok (.putfield 19, 3) := by decide +kernel
theorem dX4_loadFrom_35 : decode cX4_loadFrom 35 = .ok (.aload_n 0, 1) := by decide +kernel
theorem dX4_loadFrom_36 : decode cX4_loadFrom 36 = .ok (.aload_n 1, 1) := by decide +kernel
theorem dX4_loadFrom_37 : decode cX4_loadFrom 37 = .ok (.iload_n 3, 1) := by decide +kernel
theorem dX4_loadFrom_38 : decode cX4_loadFrom 38 = .ok (.iconst 2, 1) := by decide +kernel
theorem dX4_loadFrom_39 : decode cX4_loadFrom 39 = .ok (.iadd, 1) := by decide +kernel
theorem dX4_loadFrom_40 : decode cX4_loadFrom 40 = .ok (.iaload, 1) := by decide +kernel
theorem dX4_loadFrom_41 : decode cX4_loadFrom 41 = .ok (.iconst 1, 1) := by decide +kernel
theorem dX4_loadFrom_42 : decode cX4_loadFrom 42 = .ok (.if_icmp .ne 7, 3) := by decide +kernel
theorem dX4_loadFrom_45 : decode cX4_loadFrom 45 = .ok (.iconst 1, 1) := by decide +kernel
theorem dX4_loadFrom_46 : decode cX4_loadFrom 46 = .ok (.goto 4, 3) := by decide +kernel
theorem dX4_loadFrom_49 : decode cX4_loadFrom 49 = .ok (.iconst 0, 1) := by decide +kernel
theorem dX4_loadFrom_50 : decode cX4_loadFrom 50 = .ok (.putfield 22, 3) := by decide +kernel
theorem dX4_loadFrom_53 : decode cX4_loadFrom 53 = .ok (.aload_n 0, 1) := by decide +kernel
theorem dX4_loadFrom_54 : decode cX4_loadFrom 54 = .ok (.aload_n 1, 1) := by decide +kernel
theorem dX4_loadFrom_55 : decode cX4_loadFrom 55 = .ok (.iload_n 3, 1) := by decide +kernel
theorem dX4_loadFrom_56 : decode cX4_loadFrom 56 = .ok (.iconst 3, 1) := by decide +kernel
theorem dX4_loadFrom_57 : decode cX4_loadFrom 57 = .ok (.iadd, 1) := by decide +kernel
theorem dX4_loadFrom_58 : decode cX4_loadFrom 58 = .ok (.iaload, 1) := by decide +kernel
theorem dX4_loadFrom_59 : decode cX4_loadFrom 59 = .ok (.putfield 26, 3) := by decide +kernel
theorem dX4_loadFrom_62 : decode cX4_loadFrom 62 = .ok (.aload_n 0, 1) := by decide +kernel
theorem dX4_loadFrom_63 : decode cX4_loadFrom 63 = .ok (.aload_n 1, 1) := by decide +kernel
theorem dX4_loadFrom_64 : decode cX4_loadFrom 64 = .ok (.iload_n 3, 1) := by decide +kernel
theorem dX4_loadFrom_65 : decode cX4_loadFrom 65 = .ok (.iconst 4, 1) := by decide +kernel
theorem dX4_loadFrom_66 : decode cX4_loadFrom 66 = .ok (.iadd, 1) := by decide +kernel
theorem dX4_loadFrom_67 : decode cX4_loadFrom 67 = .ok (.iaload, 1) := by decide +kernel
theorem dX4_loadFrom_68 : decode cX4_loadFrom 68 = .ok (.putfield 29, 3) := by decide +kernel
theorem dX4_loadFrom_71 : decode cX4_loadFrom 71 = .ok (.aload_n 1, 1) := by decide +kernel
theorem dX4_loadFrom_72 : decode cX4_loadFrom 72 = .ok (.iload_n 3, 1) := by decide +kernel
theorem dX4_loadFrom_73 : decode cX4_loadFrom 73 = .ok (.iconst 5, 1) := by decide +kernel
theorem dX4_loadFrom_74 : decode cX4_loadFrom 74 = .ok (.iadd, 1) := by decide +kernel
theorem dX4_loadFrom_75 : decode cX4_loadFrom 75 = .ok (.aload_n 0, 1) := by decide +kernel
theorem dX4_loadFrom_76 : decode cX4_loadFrom 76 = .ok (.getfield 9, 3) := by decide +kernel
theorem dX4_loadFrom_79 : decode cX4_loadFrom 79 = .ok (.iconst 0, 1) := by decide +kernel
theorem dX4_loadFrom_80 : decode cX4_loadFrom 80 = .ok (.bipush 7, 2) := by decide +kernel
theorem dX4_loadFrom_82 : decode cX4_loadFrom 82 = .ok (.invokestatic 42, 3) := by decide +kernel
theorem dX4_loadFrom_85 : decode cX4_loadFrom 85 = .ok (.return_, 1) := by decide +kernel
set_option maxRecDepth 20000 in
theorem ggX5_init_X3_init : GoodIn wsX5_init wsX3_init := goodIn_r _ [12, 13, 2, 3, 14, 15, 16, 17, 8, 18, 19, 20] (by decide +kernel) (by decide +kernel)
set_option maxRecDepth 20000 in
theorem gX5_init_X3_init : GoodIn wsX5_init (wsX3_init) := ggX5_init_X3_init
theorem dX5_init_0 : decode cX5_init 0 = .ok (.aload_n 0, 1) := by decide +kernel
theorem dX5_init_1 : decode cX5_init 1 = .ok (.invokespecial 3, 3) := by decide +kernel
theorem dX5_init_4 : decode cX5_init 4 = .ok (.aload_n 0, 1) := by decide +kernel
theorem dX5_init_5 : decode cX5_init 5 = .ok (.new 9, 3) := by decide +kernel
theorem dX5_init_8 : decode cX5_init 8 = .ok (.dup, 1) := by decide +kernel
theorem dX5_init_9 : decode cX5_init 9 = .ok (.bipush 16, 2) := by decide +kernel
theorem dX5_init_11 : decode cX5_init 11 = .ok (.invokespecial 11, 3) := by decide +kernel
theorem dX5_init_14 : decode cX5_init 14 = .ok (.putfield 14, 3) := by decide +kernel
theorem dX5_init_17 : decode cX5_init 17 = .ok (.aload_n 0, 1) := by decide +kernel
theorem dX5_init_18 : decode cX5_init 18 = .ok (.bipush 16, 2) := by decide +kernel
theorem dX5_init_20 : decode cX5_init 20 = .ok (.newarray .int, 2) := by decide +kernel
theorem dX5_init_22 : decode cX5_init 22 = .ok (.putfield 20, 3) := by decide +kernel
theorem dX5_init_25 : decode cX5_init 25 = .ok (.return_, 1) := by decide +kernel
set_option maxRecDepth 20000 in
theorem ggX5_firstFault_X3_at : GoodIn wsX5_firstFault wsX3_at := goodIn_r _ [6, 7, 8, 35, 36] (by decide +kernel) (by decide +kernel)
set_option maxRecDepth 20000 in
theorem gX5_firstFault_X3_at : GoodIn wsX5_firstFault (wsV RX5 28 RX3 yX3_at wsX3_at) := goodIn_app (goodIn_of _ (by decide +kernel)) ggX5_firstFault_X3_at
set_option maxRecDepth 20000 in
theorem ggX5_firstFault_X5_isSign : GoodIn wsX5_firstFault wsX5_isSign := goodIn_r _ [12, 13, 14, 11, 15] (by decide +kernel) (by decide +kernel)
set_option maxRecDepth 20000 in
theorem gX5_firstFault_X5_isSign : GoodIn wsX5_firstFault (va_wsS RX5 32 yX5_isSign wsX5_isSign) := goodIn_app (goodIn_of _ (by decide +kernel)) ggX5_firstFault_X5_isSign
set_option maxRecDepth 20000 in
theorem ggX5_firstFault_X5_simpleOf : GoodIn wsX5_firstFault wsX5_simpleOf := goodIn_r _ [18] (by decide +kernel) (by decide +kernel)
set_option maxRecDepth 20000 in
theorem gX5_firstFault_X5_simpleOf : GoodIn wsX5_firstFault (va_wsS RX5 36 yX5_simpleOf wsX5_simpleOf) := goodIn_app (goodIn_of _ (by decide +kernel)) ggX5_firstFault_X5_simpleOf
set_option maxRecDepth 20000 in
theorem ggX5_firstFault_X1_hasSimple : GoodIn wsX5_firstFault wsX1_hasSimple := goodIn_r _ [23, 24, 25, 26, 27, 28, 29, 30, 22, 31, 32, 37, 38, 39, 40, 41] (by decide +kernel) (by decide +kernel)
set_option maxRecDepth 20000 in
theorem gX5_firstFault_X1_hasSimple : GoodIn wsX5_firstFault (wsV RX5 39 RX1 yX1_hasSimple wsX1_hasSimple) := goodIn_app (goodIn_of _ (by decide +kernel)) ggX5_firstFault_X1_hasSimple
set_option maxRecDepth 20000 in
theorem ggX5_firstFault_X5_isJoin : GoodIn wsX5_firstFault wsX5_isJoin := goodIn_r _ [15] (by decide +kernel) (by decide +kernel)
set_option maxRecDepth 20000 in
theorem gX5_firstFault_X5_isJoin : GoodIn wsX5_firstFault (va_wsS RX5 44 yX5_isJoin wsX5_isJoin) := goodIn_app (goodIn_of _ (by decide +kernel)) ggX5_firstFault_X5_isJoin
theorem dX5_firstFault_0 : decode cX5_firstFault 0 = .ok (.iconst 1, 1) := by decide +kernel
theorem dX5_firstFault_1 : decode cX5_firstFault 1 = .ok (.istore_n 2, 1) := by decide +kernel
theorem dX5_firstFault_2 : decode cX5_firstFault 2 = .ok (.iconst 0, 1) := by decide +kernel
theorem dX5_firstFault_3 : decode cX5_firstFault 3 = .ok (.istore_n 3, 1) := by decide +kernel
theorem dX5_firstFault_4 : decode cX5_firstFault 4 = .ok (.iload_n 3, 1) := by decide +kernel
theorem dX5_firstFault_5 : decode cX5_firstFault 5 = .ok (.aload_n 0, 1) := by decide +kernel
theorem dX5_firstFault_6 : decode cX5_firstFault 6 = .ok (.getfield 14, 3) := by decide +kernel
theorem dX5_firstFault_9 : decode cX5_firstFault 9 = .ok (.getfield 24, 3) := by decide +kernel
theorem dX5_firstFault_12 : decode cX5_firstFault 12 = .ok (.if_icmp .ge 69, 3) := by decide +kernel
theorem dX5_firstFault_15 : decode cX5_firstFault 15 = .ok (.aload_n 0, 1) := by decide +kernel
theorem dX5_firstFault_16 : decode cX5_firstFault 16 = .ok (.getfield 14, 3) := by decide +kernel
theorem dX5_firstFault_19 : decode cX5_firstFault 19 = .ok (.iload_n 3, 1) := by decide +kernel
theorem dX5_firstFault_20 : decode cX5_firstFault 20 = .ok (.invokevirtual 28, 3) := by decide +kernel
theorem dX5_firstFault_23 : decode cX5_firstFault 23 = .ok (.istore 4, 2) := by decide +kernel
theorem dX5_firstFault_25 : decode cX5_firstFault 25 = .ok (.iload_n 2, 1) := by decide +kernel
theorem dX5_firstFault_26 : decode cX5_firstFault 26 = .ok (.ifCond .eq 23, 3) := by decide +kernel
theorem dX5_firstFault_29 : decode cX5_firstFault 29 = .ok (.iload 4, 2) := by decide +kernel
theorem dX5_firstFault_31 : decode cX5_firstFault 31 = .ok (.invokestatic 32, 3) := by decide +kernel
theorem dX5_firstFault_34 : decode cX5_firstFault 34 = .ok (.ifCond .ne 17, 3) := by decide +kernel
theorem dX5_firstFault_37 : decode cX5_firstFault 37 = .ok (.aload_n 1, 1) := by decide +kernel
theorem dX5_firstFault_38 : decode cX5_firstFault 38 = .ok (.iload 4, 2) := by decide +kernel
theorem dX5_firstFault_40 : decode cX5_firstFault 40 = .ok (.invokestatic 36, 3) := by decide +kernel
theorem dX5_firstFault_43 : decode cX5_firstFault 43 = .ok (.invokevirtual 39, 3) := by decide +kernel
theorem dX5_firstFault_46 : decode cX5_firstFault 46 = .ok (.ifCond .ne 5, 3) := by decide +kernel
theorem dX5_firstFault_49 : decode cX5_firstFault 49 = .ok (.iload_n 3, 1) := by decide +kernel
theorem dX5_firstFault_50 : decode cX5_firstFault 50 = .ok (.ireturn, 1) := by decide +kernel
theorem dX5_firstFault_51 : decode cX5_firstFault 51 = .ok (.iload 4, 2) := by decide +kernel
theorem dX5_firstFault_53 : decode cX5_firstFault 53 = .ok (.invokestatic 44, 3) := by decide +kernel
theorem dX5_firstFault_56 : decode cX5_firstFault 56 = .ok (.ifCond .eq 9, 3) := by decide +kernel
theorem dX5_firstFault_59 : decode cX5_firstFault 59 = .ok (.iinc 2 1, 3) := by decide +kernel
theorem dX5_firstFault_62 : decode cX5_firstFault 62 = .ok (.goto 13, 3) := by decide +kernel
theorem dX5_firstFault_65 : decode cX5_firstFault 65 = .ok (.iload 4, 2) := by decide +kernel
theorem dX5_firstFault_67 : decode cX5_firstFault 67 = .ok (.bipush 110, 2) := by decide +kernel
theorem dX5_firstFault_69 : decode cX5_firstFault 69 = .ok (.if_icmp .eq 6, 3) := by decide +kernel
theorem dX5_firstFault_72 : decode cX5_firstFault 72 = .ok (.iinc 2 (-1), 3) := by decide +kernel
theorem dX5_firstFault_75 : decode cX5_firstFault 75 = .ok (.iinc 3 1, 3) := by decide +kernel
theorem dX5_firstFault_78 : decode cX5_firstFault 78 = .ok (.goto (-74), 3) := by decide +kernel
theorem dX5_firstFault_81 : decode cX5_firstFault 81 = .ok (.iload_n 2, 1) := by decide +kernel
theorem dX5_firstFault_82 : decode cX5_firstFault 82 = .ok (.ifCond .ne 8, 3) := by decide +kernel
theorem dX5_firstFault_85 : decode cX5_firstFault 85 = .ok (.bipush (-9), 2) := by decide +kernel
theorem dX5_firstFault_87 : decode cX5_firstFault 87 = .ok (.goto 10, 3) := by decide +kernel
theorem dX5_firstFault_90 : decode cX5_firstFault 90 = .ok (.aload_n 0, 1) := by decide +kernel
theorem dX5_firstFault_91 : decode cX5_firstFault 91 = .ok (.getfield 14, 3) := by decide +kernel
theorem dX5_firstFault_94 : decode cX5_firstFault 94 = .ok (.getfield 24, 3) := by decide +kernel
theorem dX5_firstFault_97 : decode cX5_firstFault 97 = .ok (.ireturn, 1) := by decide +kernel
set_option maxRecDepth 20000 in
theorem ggX5_isSign_X5_isJoin : GoodIn wsX5_isSign wsX5_isJoin := goodIn_r _ [4] (by decide +kernel) (by decide +kernel)
set_option maxRecDepth 20000 in
theorem gX5_isSign_X5_isJoin : GoodIn wsX5_isSign (va_wsS RX5 44 yX5_isJoin wsX5_isJoin) := goodIn_app (goodIn_of _ (by decide +kernel)) ggX5_isSign_X5_isJoin
theorem dX5_isSign_0 : decode cX5_isSign 0 = .ok (.iload_n 0, 1) := by decide +kernel
theorem dX5_isSign_1 : decode cX5_isSign 1 = .ok (.bipush 110, 2) := by decide +kernel
theorem dX5_isSign_3 : decode cX5_isSign 3 = .ok (.if_icmp .eq 10, 3) := by decide +kernel
theorem dX5_isSign_6 : decode cX5_isSign 6 = .ok (.iload_n 0, 1) := by decide +kernel
theorem dX5_isSign_7 : decode cX5_isSign 7 = .ok (.invokestatic 44, 3) := by decide +kernel
theorem dX5_isSign_10 : decode cX5_isSign 10 = .ok (.ifCond .eq 7, 3) := by decide +kernel
theorem dX5_isSign_13 : decode cX5_isSign 13 = .ok (.iconst 1, 1) := by decide +kernel
theorem dX5_isSign_14 : decode cX5_isSign 14 = .ok (.goto 4, 3) := by decide +kernel
theorem dX5_isSign_17 : decode cX5_isSign 17 = .ok (.iconst 0, 1) := by decide +kernel
theorem dX5_isSign_18 : decode cX5_isSign 18 = .ok (.ireturn, 1) := by decide +kernel
theorem dX5_isJoin_0 : decode cX5_isJoin 0 = .ok (.iload_n 0, 1) := by decide +kernel
theorem dX5_isJoin_1 : decode cX5_isJoin 1 = .ok (.bipush 38, 2) := by decide +kernel
theorem dX5_isJoin_3 : decode cX5_isJoin 3 = .ok (.if_icmp .eq 15, 3) := by decide +kernel
theorem dX5_isJoin_6 : decode cX5_isJoin 6 = .ok (.iload_n 0, 1) := by decide +kernel
theorem dX5_isJoin_7 : decode cX5_isJoin 7 = .ok (.bipush 124, 2) := by decide +kernel
theorem dX5_isJoin_9 : decode cX5_isJoin 9 = .ok (.if_icmp .eq 9, 3) := by decide +kernel
theorem dX5_isJoin_12 : decode cX5_isJoin 12 = .ok (.iload_n 0, 1) := by decide +kernel
theorem dX5_isJoin_13 : decode cX5_isJoin 13 = .ok (.bipush 94, 2) := by decide +kernel
theorem dX5_isJoin_15 : decode cX5_isJoin 15 = .ok (.if_icmp .ne 7, 3) := by decide +kernel
theorem dX5_isJoin_18 : decode cX5_isJoin 18 = .ok (.iconst 1, 1) := by decide +kernel
theorem dX5_isJoin_19 : decode cX5_isJoin 19 = .ok (.goto 4, 3) := by decide +kernel
theorem dX5_isJoin_22 : decode cX5_isJoin 22 = .ok (.iconst 0, 1) := by decide +kernel
theorem dX5_isJoin_23 : decode cX5_isJoin 23 = .ok (.ireturn, 1) := by decide +kernel
theorem dX5_simpleOf_0 : decode cX5_simpleOf 0 = .ok (.iload_n 0, 1) := by decide +kernel
theorem dX5_simpleOf_1 : decode cX5_simpleOf 1 = .ok (.bipush 97, 2) := by decide +kernel
theorem dX5_simpleOf_3 : decode cX5_simpleOf 3 = .ok (.if_icmp .lt 14, 3) := by decide +kernel
theorem dX5_simpleOf_6 : decode cX5_simpleOf 6 = .ok (.iload_n 0, 1) := by decide +kernel
theorem dX5_simpleOf_7 : decode cX5_simpleOf 7 = .ok (.bipush 101, 2) := by decide +kernel
theorem dX5_simpleOf_9 : decode cX5_simpleOf 9 = .ok (.if_icmp .gt 8, 3) := by decide +kernel
theorem dX5_simpleOf_12 : decode cX5_simpleOf 12 = .ok (.iload_n 0, 1) := by decide +kernel
theorem dX5_simpleOf_13 : decode cX5_simpleOf 13 = .ok (.bipush 97, 2) := by decide +kernel
theorem dX5_simpleOf_15 : decode cX5_simpleOf 15 = .ok (.isub, 1) := by decide +kernel
theorem dX5_simpleOf_16 : decode cX5_simpleOf 16 = .ok (.ireturn, 1) := by decide +kernel
theorem dX5_simpleOf_17 : decode cX5_simpleOf 17 = .ok (.iload_n 0, 1) := by decide +kernel
theorem dX5_simpleOf_18 : decode cX5_simpleOf 18 = .ok (.bipush 48, 2) := by decide +kernel
theorem dX5_simpleOf_20 : decode cX5_simpleOf 20 = .ok (.if_icmp .lt 17, 3) := by decide +kernel
theorem dX5_simpleOf_23 : decode cX5_simpleOf 23 = .ok (.iload_n 0, 1) := by decide +kernel
theorem dX5_simpleOf_24 : decode cX5_simpleOf 24 = .ok (.bipush 54, 2) := by decide +kernel
theorem dX5_simpleOf_26 : decode cX5_simpleOf 26 = .ok (.if_icmp .gt 11, 3) := by decide +kernel
theorem dX5_simpleOf_29 : decode cX5_simpleOf 29 = .ok (.bipush 6, 2) := by decide +kernel
theorem dX5_simpleOf_31 : decode cX5_simpleOf 31 = .ok (.iload_n 0, 1) := by decide +kernel
theorem dX5_simpleOf_32 : decode cX5_simpleOf 32 = .ok (.iadd, 1) := by decide +kernel
theorem dX5_simpleOf_33 : decode cX5_simpleOf 33 = .ok (.bipush 48, 2) := by decide +kernel
theorem dX5_simpleOf_35 : decode cX5_simpleOf 35 = .ok (.isub, 1) := by decide +kernel
theorem dX5_simpleOf_36 : decode cX5_simpleOf 36 = .ok (.ireturn, 1) := by decide +kernel
theorem dX5_simpleOf_37 : decode cX5_simpleOf 37 = .ok (.iload_n 0, 1) := by decide +kernel
theorem dX5_simpleOf_38 : decode cX5_simpleOf 38 = .ok (.bipush 116, 2) := by decide +kernel
theorem dX5_simpleOf_40 : decode cX5_simpleOf 40 = .ok (.if_icmp .ne 5, 3) := by decide +kernel
theorem dX5_simpleOf_43 : decode cX5_simpleOf 43 = .ok (.iconst 5, 1) := by decide +kernel
theorem dX5_simpleOf_44 : decode cX5_simpleOf 44 = .ok (.ireturn, 1) := by decide +kernel
theorem dX5_simpleOf_45 : decode cX5_simpleOf 45 = .ok (.iload_n 0, 1) := by decide +kernel
theorem dX5_simpleOf_46 : decode cX5_simpleOf 46 = .ok (.bipush 121, 2) := by decide +kernel
theorem dX5_simpleOf_48 : decode cX5_simpleOf 48 = .ok (.if_icmp .ne 8, 3) := by decide +kernel
theorem dX5_simpleOf_51 : decode cX5_simpleOf 51 = .ok (.bipush 18, 2) := by decide +kernel
theorem dX5_simpleOf_53 : decode cX5_simpleOf 53 = .ok (.goto 5, 3) := by decide +kernel
theorem dX5_simpleOf_56 : decode cX5_simpleOf 56 = .ok (.bipush (-9), 2) := by decide +kernel
theorem dX5_simpleOf_58 : decode cX5_simpleOf 58 = .ok (.ireturn, 1) := by decide +kernel
set_option maxRecDepth 20000 in
theorem ggX5_casesSo_X3_at : GoodIn wsX5_casesSo wsX3_at := goodIn_r _ [7, 8, 9, 38, 39] (by decide +kernel) (by decide +kernel)
set_option maxRecDepth 20000 in
theorem gX5_casesSo_X3_at : GoodIn wsX5_casesSo (wsV RX5 28 RX3 yX3_at wsX3_at) := goodIn_app (goodIn_of _ (by decide +kernel)) ggX5_casesSo_X3_at
set_option maxRecDepth 20000 in
theorem ggX5_casesSo_X5_isJoin : GoodIn wsX5_casesSo wsX5_isJoin := goodIn_r _ [13] (by decide +kernel) (by decide +kernel)
set_option maxRecDepth 20000 in
theorem gX5_casesSo_X5_isJoin : GoodIn wsX5_casesSo (va_wsS RX5 44 yX5_isJoin wsX5_isJoin) := goodIn_app (goodIn_of _ (by decide +kernel)) ggX5_casesSo_X5_isJoin
set_option maxRecDepth 20000 in
theorem ggX5_casesSo_X5_joined : GoodIn wsX5_casesSo wsX5_joined := goodIn_r _ [16] (by decide +kernel) (by decide +kernel)
set_option maxRecDepth 20000 in
theorem gX5_casesSo_X5_joined : GoodIn wsX5_casesSo (va_wsS RX5 49 yX5_joined wsX5_joined) := goodIn_app (goodIn_of _ (by decide +kernel)) ggX5_casesSo_X5_joined
set_option maxRecDepth 20000 in
theorem ggX5_casesSo_X5_simpleOf : GoodIn wsX5_casesSo wsX5_simpleOf := goodIn_r _ [19] (by decide +kernel) (by decide +kernel)
set_option maxRecDepth 20000 in
theorem gX5_casesSo_X5_simpleOf : GoodIn wsX5_casesSo (va_wsS RX5 36 yX5_simpleOf wsX5_simpleOf) := goodIn_app (goodIn_of _ (by decide +kernel)) ggX5_casesSo_X5_simpleOf
set_option maxRecDepth 20000 in
theorem ggX5_casesSo_X6_casesSo : GoodIn wsX5_casesSo wsX6_casesSo := goodIn_r _ [23, 24, 25, 26, 27, 28, 22, 29, 30, 31, 32, 33, 34, 35] (by decide +kernel) (by decide +kernel)
set_option maxRecDepth 20000 in
theorem gX5_casesSo_X6_casesSo : GoodIn wsX5_casesSo (va_wsS RX5 53 yX6_casesSo wsX6_casesSo) := goodIn_app (goodIn_of _ (by decide +kernel)) ggX5_casesSo_X6_casesSo
theorem dX5_casesSo_0 : decode cX5_casesSo 0 = .ok (.iconst 0, 1) := by decide +kernel
theorem dX5_casesSo_1 : decode cX5_casesSo 1 = .ok (.istore 4, 2) := by decide +kernel
theorem dX5_casesSo_3 : decode cX5_casesSo 3 = .ok (.aload_n 0, 1) := by decide +kernel
theorem dX5_casesSo_4 : decode cX5_casesSo 4 = .ok (.getfield 14, 3) := by decide +kernel
theorem dX5_casesSo_7 : decode cX5_casesSo 7 = .ok (.getfield 24, 3) := by decide +kernel
theorem dX5_casesSo_10 : decode cX5_casesSo 10 = .ok (.iconst 1, 1) := by decide +kernel
theorem dX5_casesSo_11 : decode cX5_casesSo 11 = .ok (.isub, 1) := by decide +kernel
theorem dX5_casesSo_12 : decode cX5_casesSo 12 = .ok (.istore 5, 2) := by decide +kernel
theorem dX5_casesSo_14 : decode cX5_casesSo 14 = .ok (.iload 5, 2) := by decide +kernel
theorem dX5_casesSo_16 : decode cX5_casesSo 16 = .ok (.ifCond .lt 137, 3) := by decide +kernel
theorem dX5_casesSo_19 : decode cX5_casesSo 19 = .ok (.aload_n 0, 1) := by decide +kernel
theorem dX5_casesSo_20 : decode cX5_casesSo 20 = .ok (.getfield 14, 3) := by decide +kernel
theorem dX5_casesSo_23 : decode cX5_casesSo 23 = .ok (.iload 5, 2) := by decide +kernel
theorem dX5_casesSo_25 : decode cX5_casesSo 25 = .ok (.invokevirtual 28, 3) := by decide +kernel
theorem dX5_casesSo_28 : decode cX5_casesSo 28 = .ok (.istore 6, 2) := by decide +kernel
theorem dX5_casesSo_30 : decode cX5_casesSo 30 = .ok (.iload 6, 2) := by decide +kernel
theorem dX5_casesSo_32 : decode cX5_casesSo 32 = .ok (.bipush 110, 2) := by decide +kernel
theorem dX5_casesSo_34 : decode cX5_casesSo 34 = .ok (.if_icmp .ne 32, 3) := by decide +kernel
theorem dX5_casesSo_37 : decode cX5_casesSo 37 = .ok (.iload 4, 2) := by decide +kernel
theorem dX5_casesSo_39 : decode cX5_casesSo 39 = .ok (.iconst 1, 1) := by decide +kernel
theorem dX5_casesSo_40 : decode cX5_casesSo 40 = .ok (.if_icmp .lt 107, 3) := by decide +kernel
theorem dX5_casesSo_43 : decode cX5_casesSo 43 = .ok (.aload_n 0, 1) := by decide +kernel
theorem dX5_casesSo_44 : decode cX5_casesSo 44 = .ok (.getfield 20, 3) := by decide +kernel
theorem dX5_casesSo_47 : decode cX5_casesSo 47 = .ok (.iload 4, 2) := by decide +kernel
theorem dX5_casesSo_49 : decode cX5_casesSo 49 = .ok (.iconst 1, 1) := by decide +kernel
theorem dX5_casesSo_50 : decode cX5_casesSo 50 = .ok (.isub, 1) := by decide +kernel
theorem dX5_casesSo_51 : decode cX5_casesSo 51 = .ok (.aload_n 0, 1) := by decide +kernel
theorem dX5_casesSo_52 : decode cX5_casesSo 52 = .ok (.getfield 20, 3) := by decide +kernel
theorem dX5_casesSo_55 : decode cX5_casesSo 55 = .ok (.iload 4, 2) := by decide +kernel
theorem dX5_casesSo_57 : decode cX5_casesSo 57 = .ok (.iconst 1, 1) := by decide +kernel
theorem dX5_casesSo_58 : decode cX5_casesSo 58 = .ok (.isub, 1) := by decide +kernel
theorem dX5_casesSo_59 : decode cX5_casesSo 59 = .ok (.iaload, 1) := by decide +kernel
theorem dX5_casesSo_60 : decode cX5_casesSo 60 = .ok (.iconst (-1), 1) := by decide +kernel
theorem dX5_casesSo_61 : decode cX5_casesSo 61 = .ok (.ixor, 1) := by decide +kernel
theorem dX5_casesSo_62 : decode cX5_casesSo 62 = .ok (.iastore, 1) := by decide +kernel
theorem dX5_casesSo_63 : decode cX5_casesSo 63 = .ok (.goto 84, 3) := by decide +kernel
theorem dX5_casesSo_66 : decode cX5_casesSo 66 = .ok (.iload 6, 2) := by decide +kernel
theorem dX5_casesSo_68 : decode cX5_casesSo 68 = .ok (.invokestatic 44, 3) := by decide +kernel
theorem dX5_casesSo_71 : decode cX5_casesSo 71 = .ok (.ifCond .eq 45, 3) := by decide +kernel
theorem dX5_casesSo_74 : decode cX5_casesSo 74 = .ok (.iload 4, 2) := by decide +kernel
theorem dX5_casesSo_76 : decode cX5_casesSo 76 = .ok (.iconst 2, 1) := by decide +kernel
theorem dX5_casesSo_77 : decode cX5_casesSo 77 = .ok (.if_icmp .lt 70, 3) := by decide +kernel
theorem dX5_casesSo_80 : decode cX5_casesSo 80 = .ok (.iinc 4 (-1), 3) := by decide +kernel
theorem dX5_casesSo_83 : decode cX5_casesSo 83 = .ok (.aload_n 0, 1) := by decide +kernel
theorem dX5_casesSo_84 : decode cX5_casesSo 84 = .ok (.getfield 20, 3) := by decide +kernel
theorem dX5_casesSo_87 : decode cX5_casesSo 87 = .ok (.iload 4, 2) := by decide +kernel
theorem dX5_casesSo_89 : decode cX5_casesSo 89 = .ok (.iconst 1, 1) := by decide +kernel
theorem dX5_casesSo_90 : decode cX5_casesSo 90 = .ok (.isub, 1) := by decide +kernel
theorem dX5_casesSo_91 : decode cX5_casesSo 91 = .ok (.iload 6, 2) := by decide +kernel
theorem dX5_casesSo_93 : decode cX5_casesSo 93 = .ok (.aload_n 0, 1) := by decide +kernel
theorem dX5_casesSo_94 : decode cX5_casesSo 94 = .ok (.getfield 20, 3) := by decide +kernel
theorem dX5_casesSo_97 : decode cX5_casesSo 97 = .ok (.iload 4, 2) := by decide +kernel
theorem dX5_casesSo_99 : decode cX5_casesSo 99 = .ok (.iaload, 1) := by decide +kernel
theorem dX5_casesSo_100 : decode cX5_casesSo 100 = .ok (.aload_n 0, 1) := by decide +kernel
theorem dX5_casesSo_101 : decode cX5_casesSo 101 = .ok (.getfield 20, 3) := by decide +kernel
theorem dX5_casesSo_104 : decode cX5_casesSo 104 = .ok (.iload 4, 2) := by decide +kernel
theorem dX5_casesSo_106 : decode cX5_casesSo 106 = .ok (.iconst 1, 1) := by decide +kernel
theorem dX5_casesSo_107 : decode cX5_casesSo 107 = .ok (.isub, 1) := by decide +kernel
theorem dX5_casesSo_108 : decode cX5_casesSo 108 = .ok (.iaload, 1) := by decide +kernel
theorem dX5_casesSo_109 : decode cX5_casesSo 109 = .ok (.invokestatic 49, 3) := by decide +kernel
theorem dX5_casesSo_112 : decode cX5_casesSo 112 = .ok (.iastore, 1) := by decide +kernel
theorem dX5_casesSo_113 : decode cX5_casesSo 113 = .ok (.goto 34, 3) := by decide +kernel
theorem dX5_casesSo_116 : decode cX5_casesSo 116 = .ok (.iload 4, 2) := by decide +kernel
theorem dX5_casesSo_118 : decode cX5_casesSo 118 = .ok (.aload_n 0, 1) := by decide +kernel
theorem dX5_casesSo_119 : decode cX5_casesSo 119 = .ok (.getfield 20, 3) := by decide +kernel
theorem dX5_casesSo_122 : decode cX5_casesSo 122 = .ok (.arraylength, 1) := by decide +kernel
theorem dX5_casesSo_123 : decode cX5_casesSo 123 = .ok (.if_icmp .ge 24, 3) := by decide +kernel
theorem dX5_casesSo_126 : decode cX5_casesSo 126 = .ok (.aload_n 0, 1) := by decide +kernel
theorem dX5_casesSo_127 : decode cX5_casesSo 127 = .ok (.getfield 20, 3) := by decide +kernel
theorem dX5_casesSo_130 : decode cX5_casesSo 130 = .ok (.iload 4, 2) := by decide +kernel
theorem dX5_casesSo_132 : decode cX5_casesSo 132 = .ok (.iload 6, 2) := by decide +kernel
theorem dX5_casesSo_134 : decode cX5_casesSo 134 = .ok (.invokestatic 36, 3) := by decide +kernel
theorem dX5_casesSo_137 : decode cX5_casesSo 137 = .ok (.iload_n 1, 1) := by decide +kernel
theorem dX5_casesSo_138 : decode cX5_casesSo 138 = .ok (.iload_n 2, 1) := by decide +kernel
theorem dX5_casesSo_139 : decode cX5_casesSo 139 = .ok (.iload_n 3, 1) := by decide +kernel
theorem dX5_casesSo_140 : decode cX5_casesSo 140 = .ok (.invokestatic 53, 3) := by decide +kernel
theorem dX5_casesSo_143 : decode cX5_casesSo 143 = .ok (.iastore, 1) := by decide +kernel
theorem dX5_casesSo_144 : decode cX5_casesSo 144 = .ok (.iinc 4 1, 3) := by decide +kernel
theorem dX5_casesSo_147 : decode cX5_casesSo 147 = .ok (.iinc 5 (-1), 3) := by decide +kernel
theorem dX5_casesSo_150 : decode cX5_casesSo 150 = .ok (.goto (-136), 3) := by decide +kernel
theorem dX5_casesSo_153 : decode cX5_casesSo 153 = .ok (.iload 4, 2) := by decide +kernel
theorem dX5_casesSo_155 : decode cX5_casesSo 155 = .ok (.iconst 1, 1) := by decide +kernel
theorem dX5_casesSo_156 : decode cX5_casesSo 156 = .ok (.if_icmp .lt 15, 3) := by decide +kernel
theorem dX5_casesSo_159 : decode cX5_casesSo 159 = .ok (.aload_n 0, 1) := by decide +kernel
theorem dX5_casesSo_160 : decode cX5_casesSo 160 = .ok (.getfield 20, 3) := by decide +kernel
theorem dX5_casesSo_163 : decode cX5_casesSo 163 = .ok (.iload 4, 2) := by decide +kernel
theorem dX5_casesSo_165 : decode cX5_casesSo 165 = .ok (.iconst 1, 1) := by decide +kernel
theorem dX5_casesSo_166 : decode cX5_casesSo 166 = .ok (.isub, 1) := by decide +kernel
theorem dX5_casesSo_167 : decode cX5_casesSo 167 = .ok (.iaload, 1) := by decide +kernel
theorem dX5_casesSo_168 : decode cX5_casesSo 168 = .ok (.goto 4, 3) := by decide +kernel
theorem dX5_casesSo_171 : decode cX5_casesSo 171 = .ok (.iconst 0, 1) := by decide +kernel
theorem dX5_casesSo_172 : decode cX5_casesSo 172 = .ok (.ireturn, 1) := by decide +kernel
theorem dX5_joined_0 : decode cX5_joined 0 = .ok (.iload_n 0, 1) := by decide +kernel
theorem dX5_joined_1 : decode cX5_joined 1 = .ok (.bipush 38, 2) := by decide +kernel
theorem dX5_joined_3 : decode cX5_joined 3 = .ok (.if_icmp .ne 7, 3) := by decide +kernel
theorem dX5_joined_6 : decode cX5_joined 6 = .ok (.iload_n 1, 1) := by decide +kernel
theorem dX5_joined_7 : decode cX5_joined 7 = .ok (.iload_n 2, 1) := by decide +kernel
theorem dX5_joined_8 : decode cX5_joined 8 = .ok (.iand, 1) := by decide +kernel
theorem dX5_joined_9 : decode cX5_joined 9 = .ok (.ireturn, 1) := by decide +kernel
theorem dX5_joined_10 : decode cX5_joined 10 = .ok (.iload_n 0, 1) := by decide +kernel
theorem dX5_joined_11 : decode cX5_joined 11 = .ok (.bipush 124, 2) := by decide +kernel
theorem dX5_joined_13 : decode cX5_joined 13 = .ok (.if_icmp .ne 9, 3) := by decide +kernel
theorem dX5_joined_16 : decode cX5_joined 16 = .ok (.iload_n 1, 1) := by decide +kernel
theorem dX5_joined_17 : decode cX5_joined 17 = .ok (.iload_n 2, 1) := by decide +kernel
theorem dX5_joined_18 : decode cX5_joined 18 = .ok (.ior, 1) := by decide +kernel
theorem dX5_joined_19 : decode cX5_joined 19 = .ok (.goto 6, 3) := by decide +kernel
theorem dX5_joined_22 : decode cX5_joined 22 = .ok (.iload_n 1, 1) := by decide +kernel
theorem dX5_joined_23 : decode cX5_joined 23 = .ok (.iload_n 2, 1) := by decide +kernel
theorem dX5_joined_24 : decode cX5_joined 24 = .ok (.ixor, 1) := by decide +kernel
theorem dX5_joined_25 : decode cX5_joined 25 = .ok (.ireturn, 1) := by decide +kernel
set_option maxRecDepth 20000 in
theorem ggX5_casesAnswered_X5_casesSo : GoodIn wsX5_casesAnswered wsX5_casesSo := goodIn_r _ [5, 6, 7, 8, 9, 10, 11, 12, 13, 14, 15, 16, 4, 17, 18, 19, 20, 21, 22, 23, 24, 25, 26, 27, 28, 29, 30, 31, 32, 33, 34, 35, 36, 37, 38, 39, 42, 43, 44, 45] (by decide +kernel) (by decide +kernel)
set_option maxRecDepth 20000 in
theorem gX5_casesAnswered_X5_casesSo : GoodIn wsX5_casesAnswered (wsV RX5 57 RX5 yX5_casesSo wsX5_casesSo) := goodIn_app (goodIn_of _ (by decide +kernel)) ggX5_casesAnswered_X5_casesSo
set_option maxRecDepth 20000 in
theorem ggX5_casesAnswered_X9_casesGiving : GoodIn wsX5_casesAnswered wsX9_casesGiving := goodIn_r _ [41] (by decide +kernel) (by decide +kernel)
set_option maxRecDepth 20000 in
theorem gX5_casesAnswered_X9_casesGiving_n60 : GoodIn wsX5_casesAnswered (wsX9_casesGiving) := ggX5_casesAnswered_X9_casesGiving
theorem dX5_casesAnswered_0 : decode cX5_casesAnswered 0 = .ok (.iload_n 1, 1) := by decide +kernel
theorem dX5_casesAnswered_1 : decode cX5_casesAnswered 1 = .ok (.aload_n 0, 1) := by decide +kernel
theorem dX5_casesAnswered_2 : decode cX5_casesAnswered 2 = .ok (.iconst 1, 1) := by decide +kernel
theorem dX5_casesAnswered_3 : decode cX5_casesAnswered 3 = .ok (.iload_n 2, 1) := by decide +kernel
theorem dX5_casesAnswered_4 : decode cX5_casesAnswered 4 = .ok (.iload_n 3, 1) := by decide +kernel
theorem dX5_casesAnswered_5 : decode cX5_casesAnswered 5 = .ok (.invokevirtual 57, 3) := by decide +kernel
theorem dX5_casesAnswered_8 : decode cX5_casesAnswered 8 = .ok (.aload_n 0, 1) := by decide +kernel
theorem dX5_casesAnswered_9 : decode cX5_casesAnswered 9 = .ok (.iconst 0, 1) := by decide +kernel
theorem dX5_casesAnswered_10 : decode cX5_casesAnswered 10 = .ok (.iload_n 2, 1) := by decide +kernel
theorem dX5_casesAnswered_11 : decode cX5_casesAnswered 11 = .ok (.iload_n 3, 1) := by decide +kernel
theorem dX5_casesAnswered_12 : decode cX5_casesAnswered 12 = .ok (.invokevirtual 57, 3) := by decide +kernel
theorem dX5_casesAnswered_15 : decode cX5_casesAnswered 15 = .ok (.iload_n 2, 1) := by decide +kernel
theorem dX5_casesAnswered_16 : decode cX5_casesAnswered 16 = .ok (.iload_n 3, 1) := by decide +kernel
theorem dX5_casesAnswered_17 : decode cX5_casesAnswered 17 = .ok (.iload 4, 2) := by decide +kernel
theorem dX5_casesAnswered_19 : decode cX5_casesAnswered 19 = .ok (.iadd, 1) := by decide +kernel
theorem dX5_casesAnswered_20 : decode cX5_casesAnswered 20 = .ok (.bipush 7, 2) := by decide +kernel
theorem dX5_casesAnswered_22 : decode cX5_casesAnswered 22 = .ok (.irem, 1) := by decide +kernel
theorem dX5_casesAnswered_23 : decode cX5_casesAnswered 23 = .ok (.if_icmp .ne 7, 3) := by decide +kernel
theorem dX5_casesAnswered_26 : decode cX5_casesAnswered 26 = .ok (.iconst 1, 1) := by decide +kernel
theorem dX5_casesAnswered_27 : decode cX5_casesAnswered 27 = .ok (.goto 4, 3) := by decide +kernel
theorem dX5_casesAnswered_30 : decode cX5_casesAnswered 30 = .ok (.iconst 0, 1) := by decide +kernel
theorem dX5_casesAnswered_31 : decode cX5_casesAnswered 31 = .ok (.invokestatic 60, 3) := by decide +kernel
theorem dX5_casesAnswered_34 : decode cX5_casesAnswered 34 = .ok (.ireturn, 1) := by decide +kernel
set_option maxRecDepth 20000 in
theorem ggX5_answerIn_X5_casesAnswered : GoodIn wsX5_answerIn wsX5_casesAnswered := goodIn_r _ [5, 6, 7, 8, 4, 9, 10, 11, 12, 13, 14, 15, 16, 17, 18, 19, 20, 21, 22, 23, 24, 25, 26, 27, 28, 29, 30, 31, 32, 33, 34, 35, 36, 37, 38, 39, 40, 41, 42, 43, 44, 45, 48, 49, 50, 51] (by decide +kernel) (by decide +kernel)
set_option maxRecDepth 20000 in
theorem gX5_answerIn_X5_casesAnswered : GoodIn wsX5_answerIn (wsV RX5 64 RX5 yX5_casesAnswered wsX5_casesAnswered) := goodIn_app (goodIn_of _ (by decide +kernel)) ggX5_answerIn_X5_casesAnswered
set_option maxRecDepth 20000 in
theorem ggX5_answerIn_X9_answerAt : GoodIn wsX5_answerIn wsX9_answerAt := goodIn_r _ [47] (by decide +kernel) (by decide +kernel)
set_option maxRecDepth 20000 in
theorem gX5_answerIn_X9_answerAt_n68 : GoodIn wsX5_answerIn (wsX9_answerAt) := ggX5_answerIn_X9_answerAt
theorem dX5_answerIn_0 : decode cX5_answerIn 0 = .ok (.iload_n 3, 1) := by decide +kernel
theorem dX5_answerIn_1 : decode cX5_answerIn 1 = .ok (.aload_n 0, 1) := by decide +kernel
theorem dX5_answerIn_2 : decode cX5_answerIn 2 = .ok (.iconst 1, 1) := by decide +kernel
theorem dX5_answerIn_3 : decode cX5_answerIn 3 = .ok (.iload_n 1, 1) := by decide +kernel
theorem dX5_answerIn_4 : decode cX5_answerIn 4 = .ok (.iload_n 2, 1) := by decide +kernel
theorem dX5_answerIn_5 : decode cX5_answerIn 5 = .ok (.iload 4, 2) := by decide +kernel
theorem dX5_answerIn_7 : decode cX5_answerIn 7 = .ok (.invokevirtual 64, 3) := by decide +kernel
theorem dX5_answerIn_10 : decode cX5_answerIn 10 = .ok (.aload_n 0, 1) := by decide +kernel
theorem dX5_answerIn_11 : decode cX5_answerIn 11 = .ok (.iconst 0, 1) := by decide +kernel
theorem dX5_answerIn_12 : decode cX5_answerIn 12 = .ok (.iload_n 1, 1) := by decide +kernel
theorem dX5_answerIn_13 : decode cX5_answerIn 13 = .ok (.iload_n 2, 1) := by decide +kernel
theorem dX5_answerIn_14 : decode cX5_answerIn 14 = .ok (.iload 4, 2) := by decide +kernel
theorem dX5_answerIn_16 : decode cX5_answerIn 16 = .ok (.invokevirtual 64, 3) := by decide +kernel
theorem dX5_answerIn_19 : decode cX5_answerIn 19 = .ok (.invokestatic 68, 3) := by decide +kernel
theorem dX5_answerIn_22 : decode cX5_answerIn 22 = .ok (.ireturn, 1) := by decide +kernel
theorem dX6_factOf_0 : decode cX6_factOf 0 = .ok (.iload_n 0, 1) := by decide +kernel
theorem dX6_factOf_1 : decode cX6_factOf 1 = .ok (.iconst 5, 1) := by decide +kernel
theorem dX6_factOf_2 : decode cX6_factOf 2 = .ok (.if_icmp .ge 5, 3) := by decide +kernel
theorem dX6_factOf_5 : decode cX6_factOf 5 = .ok (.iload_n 0, 1) := by decide +kernel
theorem dX6_factOf_6 : decode cX6_factOf 6 = .ok (.ireturn, 1) := by decide +kernel
theorem dX6_factOf_7 : decode cX6_factOf 7 = .ok (.iload_n 0, 1) := by decide +kernel
theorem dX6_factOf_8 : decode cX6_factOf 8 = .ok (.bipush 13, 2) := by decide +kernel
theorem dX6_factOf_10 : decode cX6_factOf 10 = .ok (.if_icmp .lt 16, 3) := by decide +kernel
theorem dX6_factOf_13 : decode cX6_factOf 13 = .ok (.iload_n 0, 1) := by decide +kernel
theorem dX6_factOf_14 : decode cX6_factOf 14 = .ok (.bipush 18, 2) := by decide +kernel
theorem dX6_factOf_16 : decode cX6_factOf 16 = .ok (.if_icmp .ge 10, 3) := by decide +kernel
theorem dX6_factOf_19 : decode cX6_factOf 19 = .ok (.iload_n 0, 1) := by decide +kernel
theorem dX6_factOf_20 : decode cX6_factOf 20 = .ok (.bipush 13, 2) := by decide +kernel
theorem dX6_factOf_22 : decode cX6_factOf 22 = .ok (.isub, 1) := by decide +kernel
theorem dX6_factOf_23 : decode cX6_factOf 23 = .ok (.goto 5, 3) := by decide +kernel
theorem dX6_factOf_26 : decode cX6_factOf 26 = .ok (.bipush (-9), 2) := by decide +kernel
theorem dX6_factOf_28 : decode cX6_factOf 28 = .ok (.ireturn, 1) := by decide +kernel
theorem dX6_isOfDay_0 : decode cX6_isOfDay 0 = .ok (.iload_n 0, 1) := by decide +kernel
theorem dX6_isOfDay_1 : decode cX6_isOfDay 1 = .ok (.bipush 6, 2) := by decide +kernel
theorem dX6_isOfDay_3 : decode cX6_isOfDay 3 = .ok (.if_icmp .lt 13, 3) := by decide +kernel
theorem dX6_isOfDay_6 : decode cX6_isOfDay 6 = .ok (.iload_n 0, 1) := by decide +kernel
theorem dX6_isOfDay_7 : decode cX6_isOfDay 7 = .ok (.bipush 13, 2) := by decide +kernel
theorem dX6_isOfDay_9 : decode cX6_isOfDay 9 = .ok (.if_icmp .ge 7, 3) := by decide +kernel
theorem dX6_isOfDay_12 : decode cX6_isOfDay 12 = .ok (.iconst 1, 1) := by decide +kernel
theorem dX6_isOfDay_13 : decode cX6_isOfDay 13 = .ok (.goto 4, 3) := by decide +kernel
theorem dX6_isOfDay_16 : decode cX6_isOfDay 16 = .ok (.iconst 0, 1) := by decide +kernel
theorem dX6_isOfDay_17 : decode cX6_isOfDay 17 = .ok (.ireturn, 1) := by decide +kernel
set_option maxRecDepth 20000 in
theorem ggX6_casesSo_X9_everyCaseIf : GoodIn wsX6_casesSo wsX9_everyCaseIf := goodIn_r _ [3] (by decide +kernel) (by decide +kernel)
set_option maxRecDepth 20000 in
theorem gX6_casesSo_X9_everyCaseIf_n11 : GoodIn wsX6_casesSo (wsX9_everyCaseIf) := ggX6_casesSo_X9_everyCaseIf
set_option maxRecDepth 20000 in
theorem ggX6_casesSo_X6_isOfDay : GoodIn wsX6_casesSo wsX6_isOfDay := goodIn_r _ [7] (by decide +kernel) (by decide +kernel)
set_option maxRecDepth 20000 in
theorem gX6_casesSo_X6_isOfDay : GoodIn wsX6_casesSo (va_wsS RX6 15 yX6_isOfDay wsX6_isOfDay) := goodIn_app (goodIn_of _ (by decide +kernel)) ggX6_casesSo_X6_isOfDay
set_option maxRecDepth 20000 in
theorem ggX6_casesSo_X6_factOf : GoodIn wsX6_casesSo wsX6_factOf := goodIn_r _ [10] (by decide +kernel) (by decide +kernel)
set_option maxRecDepth 20000 in
theorem gX6_casesSo_X6_factOf : GoodIn wsX6_casesSo (va_wsS RX6 19 yX6_factOf wsX6_factOf) := goodIn_app (goodIn_of _ (by decide +kernel)) ggX6_casesSo_X6_factOf
set_option maxRecDepth 20000 in
theorem ggX6_casesSo_X9_casesWithFact : GoodIn wsX6_casesSo wsX9_casesWithFact := goodIn_r _ [12, 13] (by decide +kernel) (by decide +kernel)
set_option maxRecDepth 20000 in
theorem gX6_casesSo_X9_casesWithFact_n23 : GoodIn wsX6_casesSo (wsX9_casesWithFact) := ggX6_casesSo_X9_casesWithFact
theorem dX6_casesSo_0 : decode cX6_casesSo 0 = .ok (.iload_n 0, 1) := by decide +kernel
theorem dX6_casesSo_1 : decode cX6_casesSo 1 = .ok (.bipush 18, 2) := by decide +kernel
theorem dX6_casesSo_3 : decode cX6_casesSo 3 = .ok (.if_icmp .ne 8, 3) := by decide +kernel
theorem dX6_casesSo_6 : decode cX6_casesSo 6 = .ok (.iload_n 1, 1) := by decide +kernel
theorem dX6_casesSo_7 : decode cX6_casesSo 7 = .ok (.invokestatic 11, 3) := by decide +kernel
theorem dX6_casesSo_10 : decode cX6_casesSo 10 = .ok (.ireturn, 1) := by decide +kernel
theorem dX6_casesSo_11 : decode cX6_casesSo 11 = .ok (.iload_n 0, 1) := by decide +kernel
theorem dX6_casesSo_12 : decode cX6_casesSo 12 = .ok (.invokestatic 15, 3) := by decide +kernel
theorem dX6_casesSo_15 : decode cX6_casesSo 15 = .ok (.ifCond .eq 20, 3) := by decide +kernel
theorem dX6_casesSo_18 : decode cX6_casesSo 18 = .ok (.iload_n 0, 1) := by decide +kernel
theorem dX6_casesSo_19 : decode cX6_casesSo 19 = .ok (.bipush 6, 2) := by decide +kernel
theorem dX6_casesSo_21 : decode cX6_casesSo 21 = .ok (.isub, 1) := by decide +kernel
theorem dX6_casesSo_22 : decode cX6_casesSo 22 = .ok (.iload_n 3, 1) := by decide +kernel
