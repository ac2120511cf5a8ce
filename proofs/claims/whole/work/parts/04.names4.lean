set_option maxRecDepth 20000 in
theorem gX0_goOut_X0_endsAtLine : GoodIn wsX0_goOut (wsV RX0 61 RX0 yX0_endsAtLine wsX0_endsAtLine) := goodIn_app (goodIn_of _ (by decide +kernel)) ggX0_goOut_X0_endsAtLine
set_option maxRecDepth 20000 in
theorem ggX0_goOut_X0_leave : GoodIn wsX0_goOut wsX0_leave := goodIn_r _ [25, 4, 26, 27, 28, 8, 29, 30, 31, 32, 33, 34, 35, 36, 37, 38, 39, 40, 41, 42, 43, 44, 45, 46, 47, 48, 49, 50, 51, 52, 53, 54, 55] (by decide +kernel) (by decide +kernel)
set_option maxRecDepth 20000 in
theorem gX0_goOut_X0_leave : GoodIn wsX0_goOut (wsV RX0 132 RX0 yX0_leave wsX0_leave) := goodIn_app (goodIn_of _ (by decide +kernel)) ggX0_goOut_X0_leave
theorem dX0_goOut_0 : decode cX0_goOut 0 = .ok (.aload_n 0, 1) := by decide +kernel
theorem dX0_goOut_1 : decode cX0_goOut 1 = .ok (.iconst 2, 1) := by decide +kernel
theorem dX0_goOut_2 : decode cX0_goOut 2 = .ok (.iload_n 1, 1) := by decide +kernel
theorem dX0_goOut_3 : decode cX0_goOut 3 = .ok (.invokevirtual 61, 3) := by decide +kernel
theorem dX0_goOut_6 : decode cX0_goOut 6 = .ok (.ifCond .eq 8, 3) := by decide +kernel
theorem dX0_goOut_9 : decode cX0_goOut 9 = .ok (.aload_n 0, 1) := by decide +kernel
theorem dX0_goOut_10 : decode cX0_goOut 10 = .ok (.getfield 37, 3) := by decide +kernel
theorem dX0_goOut_13 : decode cX0_goOut 13 = .ok (.ireturn, 1) := by decide +kernel
theorem dX0_goOut_14 : decode cX0_goOut 14 = .ok (.aload_n 0, 1) := by decide +kernel
theorem dX0_goOut_15 : decode cX0_goOut 15 = .ok (.dup, 1) := by decide +kernel
theorem dX0_goOut_16 : decode cX0_goOut 16 = .ok (.getfield 28, 3) := by decide +kernel
theorem dX0_goOut_19 : decode cX0_goOut 19 = .ok (.iconst 1, 1) := by decide +kernel
theorem dX0_goOut_20 : decode cX0_goOut 20 = .ok (.iadd, 1) := by decide +kernel
theorem dX0_goOut_21 : decode cX0_goOut 21 = .ok (.putfield 28, 3) := by decide +kernel
theorem dX0_goOut_24 : decode cX0_goOut 24 = .ok (.aload_n 0, 1) := by decide +kernel
theorem dX0_goOut_25 : decode cX0_goOut 25 = .ok (.dup, 1) := by decide +kernel
theorem dX0_goOut_26 : decode cX0_goOut 26 = .ok (.getfield 31, 3) := by decide +kernel
theorem dX0_goOut_29 : decode cX0_goOut 29 = .ok (.aload_n 0, 1) := by decide +kernel
theorem dX0_goOut_30 : decode cX0_goOut 30 = .ok (.getfield 15, 3) := by decide +kernel
theorem dX0_goOut_33 : decode cX0_goOut 33 = .ok (.iconst 2, 1) := by decide +kernel
theorem dX0_goOut_34 : decode cX0_goOut 34 = .ok (.aaload, 1) := by decide +kernel
theorem dX0_goOut_35 : decode cX0_goOut 35 = .ok (.iload_n 1, 1) := by decide +kernel
theorem dX0_goOut_36 : decode cX0_goOut 36 = .ok (.iaload, 1) := by decide +kernel
theorem dX0_goOut_37 : decode cX0_goOut 37 = .ok (.iadd, 1) := by decide +kernel
theorem dX0_goOut_38 : decode cX0_goOut 38 = .ok (.putfield 31, 3) := by decide +kernel
theorem dX0_goOut_41 : decode cX0_goOut 41 = .ok (.aload_n 0, 1) := by decide +kernel
theorem dX0_goOut_42 : decode cX0_goOut 42 = .ok (.iload_n 1, 1) := by decide +kernel
theorem dX0_goOut_43 : decode cX0_goOut 43 = .ok (.invokevirtual 132, 3) := by decide +kernel
theorem dX0_goOut_46 : decode cX0_goOut 46 = .ok (.ireturn, 1) := by decide +kernel
set_option maxRecDepth 20000 in
theorem ggX0_goOn_X0_endsAtLine : GoodIn wsX0_goOn wsX0_endsAtLine := goodIn_r _ [7, 8, 9, 10, 11, 12, 6, 13, 14, 15, 16, 17, 18, 19, 1, 48, 49, 50, 51, 52, 53, 54, 55, 56, 57] (by decide +kernel) (by decide +kernel)
set_option maxRecDepth 20000 in
theorem gX0_goOn_X0_endsAtLine : GoodIn wsX0_goOn (wsV RX0 61 RX0 yX0_endsAtLine wsX0_endsAtLine) := goodIn_app (goodIn_of _ (by decide +kernel)) ggX0_goOn_X0_endsAtLine
set_option maxRecDepth 20000 in
theorem ggX0_goOn_X0_endsAtArrival : GoodIn wsX0_goOn wsX0_endsAtArrival := goodIn_r _ [23, 2, 3, 4, 5, 6, 7, 8, 9, 10, 11, 12, 13, 14, 15, 16, 17, 18, 19, 1, 24, 25, 26, 27, 28, 29, 30, 31, 32, 33, 34, 35, 36, 37, 38, 39, 40, 41, 42, 43, 48, 49, 50, 51, 52, 53, 54, 55, 56, 57] (by decide +kernel) (by decide +kernel)
set_option maxRecDepth 20000 in
theorem gX0_goOn_X0_endsAtArrival : GoodIn wsX0_goOn (wsV RX0 89 RX0 yX0_endsAtArrival wsX0_endsAtArrival) := goodIn_app (goodIn_of _ (by decide +kernel)) ggX0_goOn_X0_endsAtArrival
set_option maxRecDepth 20000 in
theorem ggX0_goOn_X0_leave : GoodIn wsX0_goOn wsX0_leave := goodIn_r _ [47, 2, 24, 25, 26, 6, 27, 28, 29, 30, 31, 32, 33, 34, 35, 36, 37, 38, 39, 40, 41, 42, 43, 48, 49, 50, 51, 52, 53, 54, 55, 56, 57] (by decide +kernel) (by decide +kernel)
set_option maxRecDepth 20000 in
theorem gX0_goOn_X0_leave : GoodIn wsX0_goOn (wsV RX0 132 RX0 yX0_leave wsX0_leave) := goodIn_app (goodIn_of _ (by decide +kernel)) ggX0_goOn_X0_leave
theorem dX0_goOn_0 : decode cX0_goOn 0 = .ok (.iload_n 1, 1) := by decide +kernel
theorem dX0_goOn_1 : decode cX0_goOn 1 = .ok (.iconst 1, 1) := by decide +kernel
theorem dX0_goOn_2 : decode cX0_goOn 2 = .ok (.iadd, 1) := by decide +kernel
theorem dX0_goOn_3 : decode cX0_goOn 3 = .ok (.istore_n 2, 1) := by decide +kernel
theorem dX0_goOn_4 : decode cX0_goOn 4 = .ok (.aload_n 0, 1) := by decide +kernel
theorem dX0_goOn_5 : decode cX0_goOn 5 = .ok (.iconst 0, 1) := by decide +kernel
theorem dX0_goOn_6 : decode cX0_goOn 6 = .ok (.iload_n 2, 1) := by decide +kernel
theorem dX0_goOn_7 : decode cX0_goOn 7 = .ok (.invokevirtual 61, 3) := by decide +kernel
theorem dX0_goOn_10 : decode cX0_goOn 10 = .ok (.ifCond .eq 8, 3) := by decide +kernel
theorem dX0_goOn_13 : decode cX0_goOn 13 = .ok (.aload_n 0, 1) := by decide +kernel
theorem dX0_goOn_14 : decode cX0_goOn 14 = .ok (.getfield 37, 3) := by decide +kernel
theorem dX0_goOn_17 : decode cX0_goOn 17 = .ok (.ireturn, 1) := by decide +kernel
theorem dX0_goOn_18 : decode cX0_goOn 18 = .ok (.aload_n 0, 1) := by decide +kernel
theorem dX0_goOn_19 : decode cX0_goOn 19 = .ok (.getfield 15, 3) := by decide +kernel
theorem dX0_goOn_22 : decode cX0_goOn 22 = .ok (.iconst 0, 1) := by decide +kernel
theorem dX0_goOn_23 : decode cX0_goOn 23 = .ok (.aaload, 1) := by decide +kernel
theorem dX0_goOn_24 : decode cX0_goOn 24 = .ok (.iload_n 2, 1) := by decide +kernel
theorem dX0_goOn_25 : decode cX0_goOn 25 = .ok (.iaload, 1) := by decide +kernel
theorem dX0_goOn_26 : decode cX0_goOn 26 = .ok (.ifCond .eq 6, 3) := by decide +kernel
theorem dX0_goOn_29 : decode cX0_goOn 29 = .ok (.bipush (-4), 2) := by decide +kernel
theorem dX0_goOn_31 : decode cX0_goOn 31 = .ok (.ireturn, 1) := by decide +kernel
theorem dX0_goOn_32 : decode cX0_goOn 32 = .ok (.aload_n 0, 1) := by decide +kernel
theorem dX0_goOn_33 : decode cX0_goOn 33 = .ok (.iconst 2, 1) := by decide +kernel
theorem dX0_goOn_34 : decode cX0_goOn 34 = .ok (.iload_n 1, 1) := by decide +kernel
theorem dX0_goOn_35 : decode cX0_goOn 35 = .ok (.invokevirtual 61, 3) := by decide +kernel
theorem dX0_goOn_38 : decode cX0_goOn 38 = .ok (.ifCond .eq 8, 3) := by decide +kernel
theorem dX0_goOn_41 : decode cX0_goOn 41 = .ok (.aload_n 0, 1) := by decide +kernel
theorem dX0_goOn_42 : decode cX0_goOn 42 = .ok (.getfield 37, 3) := by decide +kernel
theorem dX0_goOn_45 : decode cX0_goOn 45 = .ok (.ireturn, 1) := by decide +kernel
theorem dX0_goOn_46 : decode cX0_goOn 46 = .ok (.aload_n 0, 1) := by decide +kernel
theorem dX0_goOn_47 : decode cX0_goOn 47 = .ok (.iload_n 2, 1) := by decide +kernel
theorem dX0_goOn_48 : decode cX0_goOn 48 = .ok (.aload_n 0, 1) := by decide +kernel
theorem dX0_goOn_49 : decode cX0_goOn 49 = .ok (.getfield 15, 3) := by decide +kernel
theorem dX0_goOn_52 : decode cX0_goOn 52 = .ok (.iconst 0, 1) := by decide +kernel
theorem dX0_goOn_53 : decode cX0_goOn 53 = .ok (.aaload, 1) := by decide +kernel
theorem dX0_goOn_54 : decode cX0_goOn 54 = .ok (.iload_n 1, 1) := by decide +kernel
theorem dX0_goOn_55 : decode cX0_goOn 55 = .ok (.iaload, 1) := by decide +kernel
theorem dX0_goOn_56 : decode cX0_goOn 56 = .ok (.aload_n 0, 1) := by decide +kernel
theorem dX0_goOn_57 : decode cX0_goOn 57 = .ok (.getfield 15, 3) := by decide +kernel
theorem dX0_goOn_60 : decode cX0_goOn 60 = .ok (.iconst 2, 1) := by decide +kernel
theorem dX0_goOn_61 : decode cX0_goOn 61 = .ok (.aaload, 1) := by decide +kernel
theorem dX0_goOn_62 : decode cX0_goOn 62 = .ok (.iload_n 1, 1) := by decide +kernel
theorem dX0_goOn_63 : decode cX0_goOn 63 = .ok (.iaload, 1) := by decide +kernel
theorem dX0_goOn_64 : decode cX0_goOn 64 = .ok (.invokevirtual 89, 3) := by decide +kernel
theorem dX0_goOn_67 : decode cX0_goOn 67 = .ok (.ifCond .eq 8, 3) := by decide +kernel
theorem dX0_goOn_70 : decode cX0_goOn 70 = .ok (.aload_n 0, 1) := by decide +kernel
theorem dX0_goOn_71 : decode cX0_goOn 71 = .ok (.getfield 37, 3) := by decide +kernel
theorem dX0_goOn_74 : decode cX0_goOn 74 = .ok (.ireturn, 1) := by decide +kernel
theorem dX0_goOn_75 : decode cX0_goOn 75 = .ok (.aload_n 0, 1) := by decide +kernel
theorem dX0_goOn_76 : decode cX0_goOn 76 = .ok (.iload_n 1, 1) := by decide +kernel
theorem dX0_goOn_77 : decode cX0_goOn 77 = .ok (.invokevirtual 132, 3) := by decide +kernel
theorem dX0_goOn_80 : decode cX0_goOn 80 = .ok (.ireturn, 1) := by decide +kernel
set_option maxRecDepth 20000 in
theorem ggX0_leave_X0_put : GoodIn wsX0_leave wsX0_put := goodIn_r _ [6, 1, 7, 8, 5, 9, 10, 11, 12, 13, 14, 15, 16, 17, 18, 19, 20, 21, 22, 23, 24, 25, 26, 27, 28, 29, 30, 31, 32] (by decide +kernel) (by decide +kernel)
set_option maxRecDepth 20000 in
theorem gX0_leave_X0_put : GoodIn wsX0_leave (wsV RX0 68 RX0 yX0_put wsX0_put) := goodIn_app (goodIn_of _ (by decide +kernel)) ggX0_leave_X0_put
theorem dX0_leave_0 : decode cX0_leave 0 = .ok (.aload_n 0, 1) := by decide +kernel
theorem dX0_leave_1 : decode cX0_leave 1 = .ok (.getfield 15, 3) := by decide +kernel
theorem dX0_leave_4 : decode cX0_leave 4 = .ok (.iconst 2, 1) := by decide +kernel
theorem dX0_leave_5 : decode cX0_leave 5 = .ok (.aaload, 1) := by decide +kernel
theorem dX0_leave_6 : decode cX0_leave 6 = .ok (.iload_n 1, 1) := by decide +kernel
theorem dX0_leave_7 : decode cX0_leave 7 = .ok (.iaload, 1) := by decide +kernel
theorem dX0_leave_8 : decode cX0_leave 8 = .ok (.istore_n 2, 1) := by decide +kernel
theorem dX0_leave_9 : decode cX0_leave 9 = .ok (.aload_n 0, 1) := by decide +kernel
theorem dX0_leave_10 : decode cX0_leave 10 = .ok (.iconst 2, 1) := by decide +kernel
theorem dX0_leave_11 : decode cX0_leave 11 = .ok (.iload_n 1, 1) := by decide +kernel
theorem dX0_leave_12 : decode cX0_leave 12 = .ok (.iconst 0, 1) := by decide +kernel
theorem dX0_leave_13 : decode cX0_leave 13 = .ok (.invokevirtual 68, 3) := by decide +kernel
theorem dX0_leave_16 : decode cX0_leave 16 = .ok (.aload_n 0, 1) := by decide +kernel
theorem dX0_leave_17 : decode cX0_leave 17 = .ok (.iconst 0, 1) := by decide +kernel
theorem dX0_leave_18 : decode cX0_leave 18 = .ok (.iload_n 1, 1) := by decide +kernel
theorem dX0_leave_19 : decode cX0_leave 19 = .ok (.iconst 0, 1) := by decide +kernel
theorem dX0_leave_20 : decode cX0_leave 20 = .ok (.invokevirtual 68, 3) := by decide +kernel
theorem dX0_leave_23 : decode cX0_leave 23 = .ok (.iload_n 2, 1) := by decide +kernel
theorem dX0_leave_24 : decode cX0_leave 24 = .ok (.ireturn, 1) := by decide +kernel
theorem dX0_booksKept_0 : decode cX0_booksKept 0 = .ok (.iconst 0, 1) := by decide +kernel
theorem dX0_booksKept_1 : decode cX0_booksKept 1 = .ok (.istore_n 1, 1) := by decide +kernel
theorem dX0_booksKept_2 : decode cX0_booksKept 2 = .ok (.iconst 0, 1) := by decide +kernel
theorem dX0_booksKept_3 : decode cX0_booksKept 3 = .ok (.istore_n 2, 1) := by decide +kernel
theorem dX0_booksKept_4 : decode cX0_booksKept 4 = .ok (.iload_n 2, 1) := by decide +kernel
theorem dX0_booksKept_5 : decode cX0_booksKept 5 = .ok (.iconst 5, 1) := by decide +kernel
theorem dX0_booksKept_6 : decode cX0_booksKept 6 = .ok (.if_icmp .ge 22, 3) := by decide +kernel
theorem dX0_booksKept_9 : decode cX0_booksKept 9 = .ok (.aload_n 0, 1) := by decide +kernel
theorem dX0_booksKept_10 : decode cX0_booksKept 10 = .ok (.getfield 9, 3) := by decide +kernel
theorem dX0_booksKept_13 : decode cX0_booksKept 13 = .ok (.iload_n 2, 1) := by decide +kernel
theorem dX0_booksKept_14 : decode cX0_booksKept 14 = .ok (.iaload, 1) := by decide +kernel
theorem dX0_booksKept_15 : decode cX0_booksKept 15 = .ok (.iconst (-1), 1) := by decide +kernel
theorem dX0_booksKept_16 : decode cX0_booksKept 16 = .ok (.if_icmp .eq 6, 3) := by decide +kernel
theorem dX0_booksKept_19 : decode cX0_booksKept 19 = .ok (.iinc 1 1, 3) := by decide +kernel
theorem dX0_booksKept_22 : decode cX0_booksKept 22 = .ok (.iinc 2 1, 3) := by decide +kernel
theorem dX0_booksKept_25 : decode cX0_booksKept 25 = .ok (.goto (-21), 3) := by decide +kernel
theorem dX0_booksKept_28 : decode cX0_booksKept 28 = .ok (.iload_n 1, 1) := by decide +kernel
theorem dX0_booksKept_29 : decode cX0_booksKept 29 = .ok (.ireturn, 1) := by decide +kernel
theorem dX1_init_0 : decode cX1_init 0 = .ok (.aload_n 0, 1) := by decide +kernel
theorem dX1_init_1 : decode cX1_init 1 = .ok (.invokespecial 1, 3) := by decide +kernel
theorem dX1_init_4 : decode cX1_init 4 = .ok (.aload_n 0, 1) := by decide +kernel
theorem dX1_init_5 : decode cX1_init 5 = .ok (.iconst 5, 1) := by decide +kernel
theorem dX1_init_6 : decode cX1_init 6 = .ok (.newarray .int, 2) := by decide +kernel
theorem dX1_init_8 : decode cX1_init 8 = .ok (.putfield 7, 3) := by decide +kernel
theorem dX1_init_11 : decode cX1_init 11 = .ok (.aload_n 0, 1) := by decide +kernel
theorem dX1_init_12 : decode cX1_init 12 = .ok (.bipush 120, 2) := by decide +kernel
theorem dX1_init_14 : decode cX1_init 14 = .ok (.newarray .int, 2) := by decide +kernel
theorem dX1_init_16 : decode cX1_init 16 = .ok (.putfield 13, 3) := by decide +kernel
theorem dX1_init_19 : decode cX1_init 19 = .ok (.aload_n 0, 1) := by decide +kernel
theorem dX1_init_20 : decode cX1_init 20 = .ok (.sipush 576, 3) := by decide +kernel
theorem dX1_init_23 : decode cX1_init 23 = .ok (.newarray .int, 2) := by decide +kernel
theorem dX1_init_25 : decode cX1_init 25 = .ok (.putfield 16, 3) := by decide +kernel
theorem dX1_init_28 : decode cX1_init 28 = .ok (.aload_n 0, 1) := by decide +kernel
theorem dX1_init_29 : decode cX1_init 29 = .ok (.iload_n 1, 1) := by decide +kernel
theorem dX1_init_30 : decode cX1_init 30 = .ok (.iconst 1, 1) := by decide +kernel
theorem dX1_init_31 : decode cX1_init 31 = .ok (.if_icmp .ge 7, 3) := by decide +kernel
theorem dX1_init_34 : decode cX1_init 34 = .ok (.iconst 1, 1) := by decide +kernel
theorem dX1_init_35 : decode cX1_init 35 = .ok (.goto 15, 3) := by decide +kernel
theorem dX1_init_38 : decode cX1_init 38 = .ok (.iload_n 1, 1) := by decide +kernel
theorem dX1_init_39 : decode cX1_init 39 = .ok (.bipush 24, 2) := by decide +kernel
theorem dX1_init_41 : decode cX1_init 41 = .ok (.if_icmp .le 8, 3) := by decide +kernel
theorem dX1_init_44 : decode cX1_init 44 = .ok (.bipush 24, 2) := by decide +kernel
theorem dX1_init_46 : decode cX1_init 46 = .ok (.goto 4, 3) := by decide +kernel
theorem dX1_init_49 : decode cX1_init 49 = .ok (.iload_n 1, 1) := by decide +kernel
theorem dX1_init_50 : decode cX1_init 50 = .ok (.putfield 19, 3) := by decide +kernel
theorem dX1_init_53 : decode cX1_init 53 = .ok (.iconst 0, 1) := by decide +kernel
theorem dX1_init_54 : decode cX1_init 54 = .ok (.istore_n 2, 1) := by decide +kernel
theorem dX1_init_55 : decode cX1_init 55 = .ok (.iload_n 2, 1) := by decide +kernel
theorem dX1_init_56 : decode cX1_init 56 = .ok (.iconst 5, 1) := by decide +kernel
theorem dX1_init_57 : decode cX1_init 57 = .ok (.if_icmp .ge 16, 3) := by decide +kernel
theorem dX1_init_60 : decode cX1_init 60 = .ok (.aload_n 0, 1) := by decide +kernel
theorem dX1_init_61 : decode cX1_init 61 = .ok (.getfield 7, 3) := by decide +kernel
theorem dX1_init_64 : decode cX1_init 64 = .ok (.iload_n 2, 1) := by decide +kernel
theorem dX1_init_65 : decode cX1_init 65 = .ok (.iconst (-1), 1) := by decide +kernel
theorem dX1_init_66 : decode cX1_init 66 = .ok (.iastore, 1) := by decide +kernel
theorem dX1_init_67 : decode cX1_init 67 = .ok (.iinc 2 1, 3) := by decide +kernel
theorem dX1_init_70 : decode cX1_init 70 = .ok (.goto (-15), 3) := by decide +kernel
theorem dX1_init_73 : decode cX1_init 73 = .ok (.return_, 1) := by decide +kernel
theorem dX1_isBook_0 : decode cX1_isBook 0 = .ok (.iload_n 0, 1) := by decide +kernel
theorem dX1_isBook_1 : decode cX1_isBook 1 = .ok (.ifCond .lt 12, 3) := by decide +kernel
theorem dX1_isBook_4 : decode cX1_isBook 4 = .ok (.iload_n 0, 1) := by decide +kernel
theorem dX1_isBook_5 : decode cX1_isBook 5 = .ok (.iconst 5, 1) := by decide +kernel
theorem dX1_isBook_6 : decode cX1_isBook 6 = .ok (.if_icmp .ge 7, 3) := by decide +kernel
theorem dX1_isBook_9 : decode cX1_isBook 9 = .ok (.iconst 1, 1) := by decide +kernel
theorem dX1_isBook_10 : decode cX1_isBook 10 = .ok (.goto 4, 3) := by decide +kernel
theorem dX1_isBook_13 : decode cX1_isBook 13 = .ok (.iconst 0, 1) := by decide +kernel
theorem dX1_isBook_14 : decode cX1_isBook 14 = .ok (.ireturn, 1) := by decide +kernel
theorem dX1_isChamber_0 : decode cX1_isChamber 0 = .ok (.iload_n 1, 1) := by decide +kernel
theorem dX1_isChamber_1 : decode cX1_isChamber 1 = .ok (.ifCond .lt 15, 3) := by decide +kernel
theorem dX1_isChamber_4 : decode cX1_isChamber 4 = .ok (.iload_n 1, 1) := by decide +kernel
theorem dX1_isChamber_5 : decode cX1_isChamber 5 = .ok (.aload_n 0, 1) := by decide +kernel
theorem dX1_isChamber_6 : decode cX1_isChamber 6 = .ok (.getfield 19, 3) := by decide +kernel
theorem dX1_isChamber_9 : decode cX1_isChamber 9 = .ok (.if_icmp .ge 7, 3) := by decide +kernel
theorem dX1_isChamber_12 : decode cX1_isChamber 12 = .ok (.iconst 1, 1) := by decide +kernel
theorem dX1_isChamber_13 : decode cX1_isChamber 13 = .ok (.goto 4, 3) := by decide +kernel
theorem dX1_isChamber_16 : decode cX1_isChamber 16 = .ok (.iconst 0, 1) := by decide +kernel
theorem dX1_isChamber_17 : decode cX1_isChamber 17 = .ok (.ireturn, 1) := by decide +kernel
theorem dX1_has_0 : decode cX1_has 0 = .ok (.aload_n 0, 1) := by decide +kernel
theorem dX1_has_1 : decode cX1_has 1 = .ok (.getfield 23, 3) := by decide +kernel
theorem dX1_has_4 : decode cX1_has 4 = .ok (.ifCond .eq 5, 3) := by decide +kernel
theorem dX1_has_7 : decode cX1_has 7 = .ok (.iconst 0, 1) := by decide +kernel
theorem dX1_has_8 : decode cX1_has 8 = .ok (.ireturn, 1) := by decide +kernel
theorem dX1_has_9 : decode cX1_has 9 = .ok (.aload_n 0, 1) := by decide +kernel
theorem dX1_has_10 : decode cX1_has 10 = .ok (.getfield 7, 3) := by decide +kernel
theorem dX1_has_13 : decode cX1_has 13 = .ok (.iload_n 1, 1) := by decide +kernel
theorem dX1_has_14 : decode cX1_has 14 = .ok (.iaload, 1) := by decide +kernel
theorem dX1_has_15 : decode cX1_has 15 = .ok (.ifCond .ge 14, 3) := by decide +kernel
theorem dX1_has_18 : decode cX1_has 18 = .ok (.aload_n 0, 1) := by decide +kernel
theorem dX1_has_19 : decode cX1_has 19 = .ok (.ldc 26, 2) := by decide +kernel
theorem dX1_has_21 : decode cX1_has 21 = .ok (.iload_n 1, 1) := by decide +kernel
theorem dX1_has_22 : decode cX1_has 22 = .ok (.isub, 1) := by decide +kernel
theorem dX1_has_23 : decode cX1_has 23 = .ok (.putfield 23, 3) := by decide +kernel
theorem dX1_has_26 : decode cX1_has 26 = .ok (.goto 25, 3) := by decide +kernel
theorem dX1_has_29 : decode cX1_has 29 = .ok (.iload_n 2, 1) := by decide +kernel
theorem dX1_has_30 : decode cX1_has 30 = .ok (.ifCond .lt 13, 3) := by decide +kernel
theorem dX1_has_33 : decode cX1_has 33 = .ok (.iload_n 2, 1) := by decide +kernel
theorem dX1_has_34 : decode cX1_has 34 = .ok (.aload_n 0, 1) := by decide +kernel
theorem dX1_has_35 : decode cX1_has 35 = .ok (.getfield 7, 3) := by decide +kernel
theorem dX1_has_38 : decode cX1_has 38 = .ok (.iload_n 1, 1) := by decide +kernel
theorem dX1_has_39 : decode cX1_has 39 = .ok (.iaload, 1) := by decide +kernel
theorem dX1_has_40 : decode cX1_has 40 = .ok (.if_icmp .lt 11, 3) := by decide +kernel
theorem dX1_has_43 : decode cX1_has 43 = .ok (.aload_n 0, 1) := by decide +kernel
theorem dX1_has_44 : decode cX1_has 44 = .ok (.ldc 27, 2) := by decide +kernel
theorem dX1_has_46 : decode cX1_has 46 = .ok (.iload_n 1, 1) := by decide +kernel
theorem dX1_has_47 : decode cX1_has 47 = .ok (.isub, 1) := by decide +kernel
theorem dX1_has_48 : decode cX1_has 48 = .ok (.putfield 23, 3) := by decide +kernel
theorem dX1_has_51 : decode cX1_has 51 = .ok (.aload_n 0, 1) := by decide +kernel
theorem dX1_has_52 : decode cX1_has 52 = .ok (.getfield 23, 3) := by decide +kernel
theorem dX1_has_55 : decode cX1_has 55 = .ok (.ifCond .ne 7, 3) := by decide +kernel
theorem dX1_has_58 : decode cX1_has 58 = .ok (.iconst 1, 1) := by decide +kernel
theorem dX1_has_59 : decode cX1_has 59 = .ok (.goto 4, 3) := by decide +kernel
theorem dX1_has_62 : decode cX1_has 62 = .ok (.iconst 0, 1) := by decide +kernel
theorem dX1_has_63 : decode cX1_has 63 = .ok (.ireturn, 1) := by decide +kernel
set_option maxRecDepth 20000 in
theorem ggX1_cell_X1_has : GoodIn wsX1_cell wsX1_has := goodIn_r _ [6, 7, 8, 9, 10, 11, 12, 13, 14, 15, 16, 17, 18, 19, 20, 21, 22] (by decide +kernel) (by decide +kernel)
set_option maxRecDepth 20000 in
theorem gX1_cell_X1_has : GoodIn wsX1_cell (wsV RX1 28 RX1 yX1_has wsX1_has) := goodIn_app (goodIn_of _ (by decide +kernel)) ggX1_cell_X1_has
theorem dX1_cell_0 : decode cX1_cell 0 = .ok (.aload_n 0, 1) := by decide +kernel
theorem dX1_cell_1 : decode cX1_cell 1 = .ok (.iload_n 1, 1) := by decide +kernel
theorem dX1_cell_2 : decode cX1_cell 2 = .ok (.iload_n 2, 1) := by decide +kernel
theorem dX1_cell_3 : decode cX1_cell 3 = .ok (.invokevirtual 28, 3) := by decide +kernel
theorem dX1_cell_6 : decode cX1_cell 6 = .ok (.ifCond .eq 17, 3) := by decide +kernel
theorem dX1_cell_9 : decode cX1_cell 9 = .ok (.aload_n 0, 1) := by decide +kernel
theorem dX1_cell_10 : decode cX1_cell 10 = .ok (.getfield 13, 3) := by decide +kernel
theorem dX1_cell_13 : decode cX1_cell 13 = .ok (.bipush 24, 2) := by decide +kernel
theorem dX1_cell_15 : decode cX1_cell 15 = .ok (.iload_n 1, 1) := by decide +kernel
theorem dX1_cell_16 : decode cX1_cell 16 = .ok (.imul, 1) := by decide +kernel
theorem dX1_cell_17 : decode cX1_cell 17 = .ok (.iload_n 2, 1) := by decide +kernel
theorem dX1_cell_18 : decode cX1_cell 18 = .ok (.iadd, 1) := by decide +kernel
theorem dX1_cell_19 : decode cX1_cell 19 = .ok (.iaload, 1) := by decide +kernel
theorem dX1_cell_20 : decode cX1_cell 20 = .ok (.goto 4, 3) := by decide +kernel
theorem dX1_cell_23 : decode cX1_cell 23 = .ok (.iconst 0, 1) := by decide +kernel
theorem dX1_cell_24 : decode cX1_cell 24 = .ok (.ireturn, 1) := by decide +kernel
theorem dX1_cut_0 : decode cX1_cut 0 = .ok (.iload_n 0, 1) := by decide +kernel
theorem dX1_cut_1 : decode cX1_cut 1 = .ok (.ifCond .ne 8, 3) := by decide +kernel
theorem dX1_cut_4 : decode cX1_cut 4 = .ok (.iload_n 1, 1) := by decide +kernel
theorem dX1_cut_5 : decode cX1_cut 5 = .ok (.ldc 32, 2) := by decide +kernel
theorem dX1_cut_7 : decode cX1_cut 7 = .ok (.iand, 1) := by decide +kernel
theorem dX1_cut_8 : decode cX1_cut 8 = .ok (.ireturn, 1) := by decide +kernel
theorem dX1_cut_9 : decode cX1_cut 9 = .ok (.iload_n 0, 1) := by decide +kernel
theorem dX1_cut_10 : decode cX1_cut 10 = .ok (.iconst 3, 1) := by decide +kernel
theorem dX1_cut_11 : decode cX1_cut 11 = .ok (.if_icmp .ne 7, 3) := by decide +kernel
theorem dX1_cut_14 : decode cX1_cut 14 = .ok (.iload_n 1, 1) := by decide +kernel
theorem dX1_cut_15 : decode cX1_cut 15 = .ok (.iconst 1, 1) := by decide +kernel
theorem dX1_cut_16 : decode cX1_cut 16 = .ok (.iand, 1) := by decide +kernel
theorem dX1_cut_17 : decode cX1_cut 17 = .ok (.ireturn, 1) := by decide +kernel
theorem dX1_cut_18 : decode cX1_cut 18 = .ok (.iload_n 0, 1) := by decide +kernel
theorem dX1_cut_19 : decode cX1_cut 19 = .ok (.iconst 1, 1) := by decide +kernel
theorem dX1_cut_20 : decode cX1_cut 20 = .ok (.if_icmp .ne 24, 3) := by decide +kernel
theorem dX1_cut_23 : decode cX1_cut 23 = .ok (.iload_n 1, 1) := by decide +kernel
theorem dX1_cut_24 : decode cX1_cut 24 = .ok (.ldc 32, 2) := by decide +kernel
theorem dX1_cut_26 : decode cX1_cut 26 = .ok (.iand, 1) := by decide +kernel
theorem dX1_cut_27 : decode cX1_cut 27 = .ok (.istore_n 2, 1) := by decide +kernel
theorem dX1_cut_28 : decode cX1_cut 28 = .ok (.iload_n 2, 1) := by decide +kernel
theorem dX1_cut_29 : decode cX1_cut 29 = .ok (.sipush 32767, 3) := by decide +kernel
theorem dX1_cut_32 : decode cX1_cut 32 = .ok (.if_icmp .le 10, 3) := by decide +kernel
theorem dX1_cut_35 : decode cX1_cut 35 = .ok (.iload_n 2, 1) := by decide +kernel
theorem dX1_cut_36 : decode cX1_cut 36 = .ok (.ldc 33, 2) := by decide +kernel
theorem dX1_cut_38 : decode cX1_cut 38 = .ok (.isub, 1) := by decide +kernel
theorem dX1_cut_39 : decode cX1_cut 39 = .ok (.goto 4, 3) := by decide +kernel
theorem dX1_cut_42 : decode cX1_cut 42 = .ok (.iload_n 2, 1) := by decide +kernel
theorem dX1_cut_43 : decode cX1_cut 43 = .ok (.ireturn, 1) := by decide +kernel
theorem dX1_cut_44 : decode cX1_cut 44 = .ok (.iload_n 0, 1) := by decide +kernel
theorem dX1_cut_45 : decode cX1_cut 45 = .ok (.iconst 4, 1) := by decide +kernel
theorem dX1_cut_46 : decode cX1_cut 46 = .ok (.if_icmp .ne 25, 3) := by decide +kernel
theorem dX1_cut_49 : decode cX1_cut 49 = .ok (.iload_n 1, 1) := by decide +kernel
theorem dX1_cut_50 : decode cX1_cut 50 = .ok (.sipush 255, 3) := by decide +kernel
theorem dX1_cut_53 : decode cX1_cut 53 = .ok (.iand, 1) := by decide +kernel
theorem dX1_cut_54 : decode cX1_cut 54 = .ok (.istore_n 2, 1) := by decide +kernel
theorem dX1_cut_55 : decode cX1_cut 55 = .ok (.iload_n 2, 1) := by decide +kernel
theorem dX1_cut_56 : decode cX1_cut 56 = .ok (.bipush 127, 2) := by decide +kernel
theorem dX1_cut_58 : decode cX1_cut 58 = .ok (.if_icmp .le 11, 3) := by decide +kernel
theorem dX1_cut_61 : decode cX1_cut 61 = .ok (.iload_n 2, 1) := by decide +kernel
theorem dX1_cut_62 : decode cX1_cut 62 = .ok (.sipush 256, 3) := by decide +kernel
theorem dX1_cut_65 : decode cX1_cut 65 = .ok (.isub, 1) := by decide +kernel
theorem dX1_cut_66 : decode cX1_cut 66 = .ok (.goto 4, 3) := by decide +kernel
theorem dX1_cut_69 : decode cX1_cut 69 = .ok (.iload_n 2, 1) := by decide +kernel
theorem dX1_cut_70 : decode cX1_cut 70 = .ok (.ireturn, 1) := by decide +kernel
theorem dX1_cut_71 : decode cX1_cut 71 = .ok (.iload_n 1, 1) := by decide +kernel
theorem dX1_cut_72 : decode cX1_cut 72 = .ok (.ldc 34, 2) := by decide +kernel
theorem dX1_cut_74 : decode cX1_cut 74 = .ok (.if_icmp .le 8, 3) := by decide +kernel
theorem dX1_cut_77 : decode cX1_cut 77 = .ok (.ldc 34, 2) := by decide +kernel
theorem dX1_cut_79 : decode cX1_cut 79 = .ok (.goto 15, 3) := by decide +kernel
theorem dX1_cut_82 : decode cX1_cut 82 = .ok (.iload_n 1, 1) := by decide +kernel
theorem dX1_cut_83 : decode cX1_cut 83 = .ok (.ldc 35, 2) := by decide +kernel
theorem dX1_cut_85 : decode cX1_cut 85 = .ok (.if_icmp .ge 8, 3) := by decide +kernel
theorem dX1_cut_88 : decode cX1_cut 88 = .ok (.ldc 35, 2) := by decide +kernel
theorem dX1_cut_90 : decode cX1_cut 90 = .ok (.goto 4, 3) := by decide +kernel
theorem dX1_cut_93 : decode cX1_cut 93 = .ok (.iload_n 1, 1) := by decide +kernel
theorem dX1_cut_94 : decode cX1_cut 94 = .ok (.ireturn, 1) := by decide +kernel
set_option maxRecDepth 20000 in
theorem ggX1_put_X1_has : GoodIn wsX1_put wsX1_has := goodIn_r _ [6, 7, 8, 9, 10, 18, 19, 20, 21, 22, 23, 24, 25, 26, 27, 28, 29] (by decide +kernel) (by decide +kernel)
set_option maxRecDepth 20000 in
theorem gX1_put_X1_has : GoodIn wsX1_put (wsV RX1 28 RX1 yX1_has wsX1_has) := goodIn_app (goodIn_of _ (by decide +kernel)) ggX1_put_X1_has
set_option maxRecDepth 20000 in
theorem ggX1_put_X1_cut : GoodIn wsX1_put wsX1_cut := goodIn_r _ [13, 14, 15, 16, 17] (by decide +kernel) (by decide +kernel)
set_option maxRecDepth 20000 in
theorem gX1_put_X1_cut : GoodIn wsX1_put (va_wsS RX1 36 yX1_cut wsX1_cut) := goodIn_app (goodIn_of _ (by decide +kernel)) ggX1_put_X1_cut
theorem dX1_put_0 : decode cX1_put 0 = .ok (.aload_n 0, 1) := by decide +kernel
theorem dX1_put_1 : decode cX1_put 1 = .ok (.iload_n 1, 1) := by decide +kernel
theorem dX1_put_2 : decode cX1_put 2 = .ok (.iload_n 2, 1) := by decide +kernel
theorem dX1_put_3 : decode cX1_put 3 = .ok (.invokevirtual 28, 3) := by decide +kernel
theorem dX1_put_6 : decode cX1_put 6 = .ok (.ifCond .eq 19, 3) := by decide +kernel
theorem dX1_put_9 : decode cX1_put 9 = .ok (.aload_n 0, 1) := by decide +kernel
theorem dX1_put_10 : decode cX1_put 10 = .ok (.getfield 13, 3) := by decide +kernel
theorem dX1_put_13 : decode cX1_put 13 = .ok (.bipush 24, 2) := by decide +kernel
theorem dX1_put_15 : decode cX1_put 15 = .ok (.iload_n 1, 1) := by decide +kernel
theorem dX1_put_16 : decode cX1_put 16 = .ok (.imul, 1) := by decide +kernel
theorem dX1_put_17 : decode cX1_put 17 = .ok (.iload_n 2, 1) := by decide +kernel
theorem dX1_put_18 : decode cX1_put 18 = .ok (.iadd, 1) := by decide +kernel
theorem dX1_put_19 : decode cX1_put 19 = .ok (.iload_n 1, 1) := by decide +kernel
theorem dX1_put_20 : decode cX1_put 20 = .ok (.iload_n 3, 1) := by decide +kernel
theorem dX1_put_21 : decode cX1_put 21 = .ok (.invokestatic 36, 3) := by decide +kernel
theorem dX1_put_24 : decode cX1_put 24 = .ok (.iastore, 1) := by decide +kernel
theorem dX1_put_25 : decode cX1_put 25 = .ok (.return_, 1) := by decide +kernel
set_option maxRecDepth 20000 in
theorem ggX1_more_X1_has : GoodIn wsX1_more wsX1_has := goodIn_r _ [6, 7, 8, 9, 10, 18, 19, 20, 21, 22, 23, 24, 25, 26, 27, 28, 29] (by decide +kernel) (by decide +kernel)
set_option maxRecDepth 20000 in
theorem gX1_more_X1_has : GoodIn wsX1_more (wsV RX1 28 RX1 yX1_has wsX1_has) := goodIn_app (goodIn_of _ (by decide +kernel)) ggX1_more_X1_has
set_option maxRecDepth 20000 in
theorem ggX1_more_X1_cut : GoodIn wsX1_more wsX1_cut := goodIn_r _ [13, 14, 15, 16, 17] (by decide +kernel) (by decide +kernel)
set_option maxRecDepth 20000 in
theorem gX1_more_X1_cut : GoodIn wsX1_more (va_wsS RX1 36 yX1_cut wsX1_cut) := goodIn_app (goodIn_of _ (by decide +kernel)) ggX1_more_X1_cut
theorem dX1_more_0 : decode cX1_more 0 = .ok (.aload_n 0, 1) := by decide +kernel
theorem dX1_more_1 : decode cX1_more 1 = .ok (.iload_n 1, 1) := by decide +kernel
theorem dX1_more_2 : decode cX1_more 2 = .ok (.iload_n 2, 1) := by decide +kernel
theorem dX1_more_3 : decode cX1_more 3 = .ok (.invokevirtual 28, 3) := by decide +kernel
theorem dX1_more_6 : decode cX1_more 6 = .ok (.ifCond .eq 31, 3) := by decide +kernel
theorem dX1_more_9 : decode cX1_more 9 = .ok (.aload_n 0, 1) := by decide +kernel
theorem dX1_more_10 : decode cX1_more 10 = .ok (.getfield 13, 3) := by decide +kernel
theorem dX1_more_13 : decode cX1_more 13 = .ok (.bipush 24, 2) := by decide +kernel
theorem dX1_more_15 : decode cX1_more 15 = .ok (.iload_n 1, 1) := by decide +kernel
theorem dX1_more_16 : decode cX1_more 16 = .ok (.imul, 1) := by decide +kernel
theorem dX1_more_17 : decode cX1_more 17 = .ok (.iload_n 2, 1) := by decide +kernel
theorem dX1_more_18 : decode cX1_more 18 = .ok (.iadd, 1) := by decide +kernel
theorem dX1_more_19 : decode cX1_more 19 = .ok (.iload_n 1, 1) := by decide +kernel
theorem dX1_more_20 : decode cX1_more 20 = .ok (.aload_n 0, 1) := by decide +kernel
theorem dX1_more_21 : decode cX1_more 21 = .ok (.getfield 13, 3) := by decide +kernel
theorem dX1_more_24 : decode cX1_more 24 = .ok (.bipush 24, 2) := by decide +kernel
theorem dX1_more_26 : decode cX1_more 26 = .ok (.iload_n 1, 1) := by decide +kernel
theorem dX1_more_27 : decode cX1_more 27 = .ok (.imul, 1) := by decide +kernel
theorem dX1_more_28 : decode cX1_more 28 = .ok (.iload_n 2, 1) := by decide +kernel
theorem dX1_more_29 : decode cX1_more 29 = .ok (.iadd, 1) := by decide +kernel
theorem dX1_more_30 : decode cX1_more 30 = .ok (.iaload, 1) := by decide +kernel
theorem dX1_more_31 : decode cX1_more 31 = .ok (.iload_n 3, 1) := by decide +kernel
theorem dX1_more_32 : decode cX1_more 32 = .ok (.iadd, 1) := by decide +kernel
theorem dX1_more_33 : decode cX1_more 33 = .ok (.invokestatic 36, 3) := by decide +kernel
theorem dX1_more_36 : decode cX1_more 36 = .ok (.iastore, 1) := by decide +kernel
theorem dX1_more_37 : decode cX1_more 37 = .ok (.return_, 1) := by decide +kernel
theorem dX1_answer_0 : decode cX1_answer 0 = .ok (.aload_n 0, 1) := by decide +kernel
theorem dX1_answer_1 : decode cX1_answer 1 = .ok (.getfield 23, 3) := by decide +kernel
theorem dX1_answer_4 : decode cX1_answer 4 = .ok (.ifCond .ne 5, 3) := by decide +kernel
theorem dX1_answer_7 : decode cX1_answer 7 = .ok (.iload_n 1, 1) := by decide +kernel
theorem dX1_answer_8 : decode cX1_answer 8 = .ok (.ireturn, 1) := by decide +kernel
theorem dX1_answer_9 : decode cX1_answer 9 = .ok (.aload_n 0, 1) := by decide +kernel
theorem dX1_answer_10 : decode cX1_answer 10 = .ok (.dup, 1) := by decide +kernel
theorem dX1_answer_11 : decode cX1_answer 11 = .ok (.getfield 40, 3) := by decide +kernel
theorem dX1_answer_14 : decode cX1_answer 14 = .ok (.iconst 1, 1) := by decide +kernel
theorem dX1_answer_15 : decode cX1_answer 15 = .ok (.iadd, 1) := by decide +kernel
theorem dX1_answer_16 : decode cX1_answer 16 = .ok (.putfield 40, 3) := by decide +kernel
theorem dX1_answer_19 : decode cX1_answer 19 = .ok (.aload_n 0, 1) := by decide +kernel
theorem dX1_answer_20 : decode cX1_answer 20 = .ok (.aload_n 0, 1) := by decide +kernel
theorem dX1_answer_21 : decode cX1_answer 21 = .ok (.getfield 23, 3) := by decide +kernel
theorem dX1_answer_24 : decode cX1_answer 24 = .ok (.putfield 43, 3) := by decide +kernel
theorem dX1_answer_27 : decode cX1_answer 27 = .ok (.aload_n 0, 1) := by decide +kernel
theorem dX1_answer_28 : decode cX1_answer 28 = .ok (.getfield 23, 3) := by decide +kernel
theorem dX1_answer_31 : decode cX1_answer 31 = .ok (.ireturn, 1) := by decide +kernel
set_option maxRecDepth 20000 in
theorem ggX1_keep_X1_isBook : GoodIn wsX1_keep wsX1_isBook := goodIn_r _ [7] (by decide +kernel) (by decide +kernel)
set_option maxRecDepth 20000 in
theorem gX1_keep_X1_isBook : GoodIn wsX1_keep (va_wsS RX1 46 yX1_isBook wsX1_isBook) := goodIn_app (goodIn_of _ (by decide +kernel)) ggX1_keep_X1_isBook
theorem dX1_keep_0 : decode cX1_keep 0 = .ok (.iload_n 1, 1) := by decide +kernel
theorem dX1_keep_1 : decode cX1_keep 1 = .ok (.invokestatic 46, 3) := by decide +kernel
theorem dX1_keep_4 : decode cX1_keep 4 = .ok (.ifCond .ne 6, 3) := by decide +kernel
theorem dX1_keep_7 : decode cX1_keep 7 = .ok (.ldc 50, 2) := by decide +kernel
theorem dX1_keep_9 : decode cX1_keep 9 = .ok (.ireturn, 1) := by decide +kernel
theorem dX1_keep_10 : decode cX1_keep 10 = .ok (.iload_n 2, 1) := by decide +kernel
theorem dX1_keep_11 : decode cX1_keep 11 = .ok (.bipush 24, 2) := by decide +kernel
theorem dX1_keep_13 : decode cX1_keep 13 = .ok (.if_icmp .le 6, 3) := by decide +kernel
theorem dX1_keep_16 : decode cX1_keep 16 = .ok (.bipush (-2), 2) := by decide +kernel
theorem dX1_keep_18 : decode cX1_keep 18 = .ok (.ireturn, 1) := by decide +kernel
theorem dX1_keep_19 : decode cX1_keep 19 = .ok (.iload_n 2, 1) := by decide +kernel
theorem dX1_keep_20 : decode cX1_keep 20 = .ok (.ifCond .ge 6, 3) := by decide +kernel
theorem dX1_keep_23 : decode cX1_keep 23 = .ok (.bipush (-3), 2) := by decide +kernel
theorem dX1_keep_25 : decode cX1_keep 25 = .ok (.ireturn, 1) := by decide +kernel
theorem dX1_keep_26 : decode cX1_keep 26 = .ok (.aload_n 0, 1) := by decide +kernel
theorem dX1_keep_27 : decode cX1_keep 27 = .ok (.getfield 7, 3) := by decide +kernel
theorem dX1_keep_30 : decode cX1_keep 30 = .ok (.iload_n 1, 1) := by decide +kernel
theorem dX1_keep_31 : decode cX1_keep 31 = .ok (.iload_n 2, 1) := by decide +kernel
theorem dX1_keep_32 : decode cX1_keep 32 = .ok (.iastore, 1) := by decide +kernel
theorem dX1_keep_33 : decode cX1_keep 33 = .ok (.iconst 0, 1) := by decide +kernel
theorem dX1_keep_34 : decode cX1_keep 34 = .ok (.istore_n 3, 1) := by decide +kernel
theorem dX1_keep_35 : decode cX1_keep 35 = .ok (.iload_n 3, 1) := by decide +kernel
theorem dX1_keep_36 : decode cX1_keep 36 = .ok (.bipush 24, 2) := by decide +kernel
theorem dX1_keep_38 : decode cX1_keep 38 = .ok (.if_icmp .ge 21, 3) := by decide +kernel
theorem dX1_keep_41 : decode cX1_keep 41 = .ok (.aload_n 0, 1) := by decide +kernel
theorem dX1_keep_42 : decode cX1_keep 42 = .ok (.getfield 13, 3) := by decide +kernel
theorem dX1_keep_45 : decode cX1_keep 45 = .ok (.bipush 24, 2) := by decide +kernel
theorem dX1_keep_47 : decode cX1_keep 47 = .ok (.iload_n 1, 1) := by decide +kernel
theorem dX1_keep_48 : decode cX1_keep 48 = .ok (.imul, 1) := by decide +kernel
theorem dX1_keep_49 : decode cX1_keep 49 = .ok (.iload_n 3, 1) := by decide +kernel
theorem dX1_keep_50 : decode cX1_keep 50 = .ok (.iadd, 1) := by decide +kernel
theorem dX1_keep_51 : decode cX1_keep 51 = .ok (.iconst 0, 1) := by decide +kernel
theorem dX1_keep_52 : decode cX1_keep 52 = .ok (.iastore, 1) := by decide +kernel
theorem dX1_keep_53 : decode cX1_keep 53 = .ok (.iinc 3 1, 3) := by decide +kernel
theorem dX1_keep_56 : decode cX1_keep 56 = .ok (.goto (-21), 3) := by decide +kernel
theorem dX1_keep_59 : decode cX1_keep 59 = .ok (.iconst 0, 1) := by decide +kernel
theorem dX1_keep_60 : decode cX1_keep 60 = .ok (.ireturn, 1) := by decide +kernel
set_option maxRecDepth 20000 in
theorem ggX1_lose_X1_isBook : GoodIn wsX1_lose wsX1_isBook := goodIn_r _ [6] (by decide +kernel) (by decide +kernel)
set_option maxRecDepth 20000 in
theorem gX1_lose_X1_isBook : GoodIn wsX1_lose (va_wsS RX1 46 yX1_isBook wsX1_isBook) := goodIn_app (goodIn_of _ (by decide +kernel)) ggX1_lose_X1_isBook
theorem dX1_lose_0 : decode cX1_lose 0 = .ok (.iload_n 1, 1) := by decide +kernel
theorem dX1_lose_1 : decode cX1_lose 1 = .ok (.invokestatic 46, 3) := by decide +kernel
theorem dX1_lose_4 : decode cX1_lose 4 = .ok (.ifCond .ne 6, 3) := by decide +kernel
theorem dX1_lose_7 : decode cX1_lose 7 = .ok (.ldc 50, 2) := by decide +kernel
theorem dX1_lose_9 : decode cX1_lose 9 = .ok (.ireturn, 1) := by decide +kernel
theorem dX1_lose_10 : decode cX1_lose 10 = .ok (.aload_n 0, 1) := by decide +kernel
theorem dX1_lose_11 : decode cX1_lose 11 = .ok (.getfield 7, 3) := by decide +kernel
theorem dX1_lose_14 : decode cX1_lose 14 = .ok (.iload_n 1, 1) := by decide +kernel
theorem dX1_lose_15 : decode cX1_lose 15 = .ok (.iaload, 1) := by decide +kernel
theorem dX1_lose_16 : decode cX1_lose 16 = .ok (.ifCond .lt 7, 3) := by decide +kernel
theorem dX1_lose_19 : decode cX1_lose 19 = .ok (.iconst 1, 1) := by decide +kernel
theorem dX1_lose_20 : decode cX1_lose 20 = .ok (.goto 4, 3) := by decide +kernel
theorem dX1_lose_23 : decode cX1_lose 23 = .ok (.iconst 0, 1) := by decide +kernel
theorem dX1_lose_24 : decode cX1_lose 24 = .ok (.istore_n 2, 1) := by decide +kernel
theorem dX1_lose_25 : decode cX1_lose 25 = .ok (.aload_n 0, 1) := by decide +kernel
theorem dX1_lose_26 : decode cX1_lose 26 = .ok (.getfield 7, 3) := by decide +kernel
theorem dX1_lose_29 : decode cX1_lose 29 = .ok (.iload_n 1, 1) := by decide +kernel
theorem dX1_lose_30 : decode cX1_lose 30 = .ok (.iconst (-1), 1) := by decide +kernel
theorem dX1_lose_31 : decode cX1_lose 31 = .ok (.iastore, 1) := by decide +kernel
theorem dX1_lose_32 : decode cX1_lose 32 = .ok (.iload_n 2, 1) := by decide +kernel
theorem dX1_lose_33 : decode cX1_lose 33 = .ok (.ifCond .eq 7, 3) := by decide +kernel
theorem dX1_lose_36 : decode cX1_lose 36 = .ok (.iconst 1, 1) := by decide +kernel
theorem dX1_lose_37 : decode cX1_lose 37 = .ok (.goto 4, 3) := by decide +kernel
theorem dX1_lose_40 : decode cX1_lose 40 = .ok (.iconst 0, 1) := by decide +kernel
theorem dX1_lose_41 : decode cX1_lose 41 = .ok (.ireturn, 1) := by decide +kernel
set_option maxRecDepth 20000 in
theorem ggX1_lines_X1_isBook : GoodIn wsX1_lines wsX1_isBook := goodIn_r _ [8] (by decide +kernel) (by decide +kernel)
set_option maxRecDepth 20000 in
theorem gX1_lines_X1_isBook : GoodIn wsX1_lines (va_wsS RX1 46 yX1_isBook wsX1_isBook) := goodIn_app (goodIn_of _ (by decide +kernel)) ggX1_lines_X1_isBook
set_option maxRecDepth 20000 in
theorem ggX1_lines_X1_answer : GoodIn wsX1_lines wsX1_answer := goodIn_r _ [12, 4, 13, 14, 15, 16, 17, 18, 19, 20, 21, 22, 23, 24, 25, 26] (by decide +kernel) (by decide +kernel)
set_option maxRecDepth 20000 in
theorem gX1_lines_X1_answer : GoodIn wsX1_lines (wsV RX1 51 RX1 yX1_answer wsX1_answer) := goodIn_app (goodIn_of _ (by decide +kernel)) ggX1_lines_X1_answer
theorem dX1_lines_0 : decode cX1_lines 0 = .ok (.iload_n 1, 1) := by decide +kernel
theorem dX1_lines_1 : decode cX1_lines 1 = .ok (.invokestatic 46, 3) := by decide +kernel
theorem dX1_lines_4 : decode cX1_lines 4 = .ok (.ifCond .ne 6, 3) := by decide +kernel
theorem dX1_lines_7 : decode cX1_lines 7 = .ok (.ldc 50, 2) := by decide +kernel
theorem dX1_lines_9 : decode cX1_lines 9 = .ok (.ireturn, 1) := by decide +kernel
theorem dX1_lines_10 : decode cX1_lines 10 = .ok (.aload_n 0, 1) := by decide +kernel
theorem dX1_lines_11 : decode cX1_lines 11 = .ok (.aload_n 0, 1) := by decide +kernel
theorem dX1_lines_12 : decode cX1_lines 12 = .ok (.getfield 7, 3) := by decide +kernel
theorem dX1_lines_15 : decode cX1_lines 15 = .ok (.iload_n 1, 1) := by decide +kernel
theorem dX1_lines_16 : decode cX1_lines 16 = .ok (.iaload, 1) := by decide +kernel
theorem dX1_lines_17 : decode cX1_lines 17 = .ok (.ifCond .ge 10, 3) := by decide +kernel
theorem dX1_lines_20 : decode cX1_lines 20 = .ok (.ldc 26, 2) := by decide +kernel
theorem dX1_lines_22 : decode cX1_lines 22 = .ok (.iload_n 1, 1) := by decide +kernel
theorem dX1_lines_23 : decode cX1_lines 23 = .ok (.isub, 1) := by decide +kernel
theorem dX1_lines_24 : decode cX1_lines 24 = .ok (.goto 4, 3) := by decide +kernel
theorem dX1_lines_27 : decode cX1_lines 27 = .ok (.iconst 0, 1) := by decide +kernel
theorem dX1_lines_28 : decode cX1_lines 28 = .ok (.putfield 23, 3) := by decide +kernel
theorem dX1_lines_31 : decode cX1_lines 31 = .ok (.aload_n 0, 1) := by decide +kernel
theorem dX1_lines_32 : decode cX1_lines 32 = .ok (.aload_n 0, 1) := by decide +kernel
theorem dX1_lines_33 : decode cX1_lines 33 = .ok (.getfield 7, 3) := by decide +kernel
theorem dX1_lines_36 : decode cX1_lines 36 = .ok (.iload_n 1, 1) := by decide +kernel
theorem dX1_lines_37 : decode cX1_lines 37 = .ok (.iaload, 1) := by decide +kernel
theorem dX1_lines_38 : decode cX1_lines 38 = .ok (.invokevirtual 51, 3) := by decide +kernel
theorem dX1_lines_41 : decode cX1_lines 41 = .ok (.ireturn, 1) := by decide +kernel
set_option maxRecDepth 20000 in
theorem ggX1_read_X1_isBook : GoodIn wsX1_read wsX1_isBook := goodIn_r _ [6] (by decide +kernel) (by decide +kernel)
set_option maxRecDepth 20000 in
theorem gX1_read_X1_isBook : GoodIn wsX1_read (va_wsS RX1 46 yX1_isBook wsX1_isBook) := goodIn_app (goodIn_of _ (by decide +kernel)) ggX1_read_X1_isBook
set_option maxRecDepth 20000 in
theorem ggX1_read_X1_cell : GoodIn wsX1_read wsX1_cell := goodIn_r _ [10, 11, 12, 13, 14, 5, 15, 2, 16, 17, 18, 25, 26, 27, 28, 29, 30, 31, 32, 33, 34, 35, 36] (by decide +kernel) (by decide +kernel)
set_option maxRecDepth 20000 in
theorem gX1_read_X1_cell : GoodIn wsX1_read (wsV RX1 55 RX1 yX1_cell wsX1_cell) := goodIn_app (goodIn_of _ (by decide +kernel)) ggX1_read_X1_cell
set_option maxRecDepth 20000 in
theorem ggX1_read_X1_answer : GoodIn wsX1_read wsX1_answer := goodIn_r _ [22, 2, 23, 24, 25, 26, 27, 28, 29, 30, 31, 32, 33, 34, 35, 36] (by decide +kernel) (by decide +kernel)
set_option maxRecDepth 20000 in
theorem gX1_read_X1_answer : GoodIn wsX1_read (wsV RX1 51 RX1 yX1_answer wsX1_answer) := goodIn_app (goodIn_of _ (by decide +kernel)) ggX1_read_X1_answer
theorem dX1_read_0 : decode cX1_read 0 = .ok (.iload_n 1, 1) := by decide +kernel
theorem dX1_read_1 : decode cX1_read 1 = .ok (.invokestatic 46, 3) := by decide +kernel
theorem dX1_read_4 : decode cX1_read 4 = .ok (.ifCond .ne 6, 3) := by decide +kernel
theorem dX1_read_7 : decode cX1_read 7 = .ok (.ldc 50, 2) := by decide +kernel
theorem dX1_read_9 : decode cX1_read 9 = .ok (.ireturn, 1) := by decide +kernel
theorem dX1_read_10 : decode cX1_read 10 = .ok (.aload_n 0, 1) := by decide +kernel
theorem dX1_read_11 : decode cX1_read 11 = .ok (.iconst 0, 1) := by decide +kernel
theorem dX1_read_12 : decode cX1_read 12 = .ok (.putfield 23, 3) := by decide +kernel
theorem dX1_read_15 : decode cX1_read 15 = .ok (.aload_n 0, 1) := by decide +kernel
theorem dX1_read_16 : decode cX1_read 16 = .ok (.iload_n 1, 1) := by decide +kernel
theorem dX1_read_17 : decode cX1_read 17 = .ok (.iload_n 2, 1) := by decide +kernel
theorem dX1_read_18 : decode cX1_read 18 = .ok (.invokevirtual 55, 3) := by decide +kernel
theorem dX1_read_21 : decode cX1_read 21 = .ok (.istore_n 3, 1) := by decide +kernel
theorem dX1_read_22 : decode cX1_read 22 = .ok (.aload_n 0, 1) := by decide +kernel
theorem dX1_read_23 : decode cX1_read 23 = .ok (.iload_n 3, 1) := by decide +kernel
theorem dX1_read_24 : decode cX1_read 24 = .ok (.invokevirtual 51, 3) := by decide +kernel
theorem dX1_read_27 : decode cX1_read 27 = .ok (.ireturn, 1) := by decide +kernel
theorem dX1_isLoad_0 : decode cX1_isLoad 0 = .ok (.iload_n 0, 1) := by decide +kernel
theorem dX1_isLoad_1 : decode cX1_isLoad 1 = .ok (.sipush (-16000), 3) := by decide +kernel
theorem dX1_isLoad_4 : decode cX1_isLoad 4 = .ok (.if_icmp .lt 14, 3) := by decide +kernel
theorem dX1_isLoad_7 : decode cX1_isLoad 7 = .ok (.iload_n 0, 1) := by decide +kernel
theorem dX1_isLoad_8 : decode cX1_isLoad 8 = .ok (.sipush 16000, 3) := by decide +kernel
theorem dX1_isLoad_11 : decode cX1_isLoad 11 = .ok (.if_icmp .gt 7, 3) := by decide +kernel
theorem dX1_isLoad_14 : decode cX1_isLoad 14 = .ok (.iconst 1, 1) := by decide +kernel
theorem dX1_isLoad_15 : decode cX1_isLoad 15 = .ok (.goto 4, 3) := by decide +kernel
theorem dX1_isLoad_18 : decode cX1_isLoad 18 = .ok (.iconst 0, 1) := by decide +kernel
theorem dX1_isLoad_19 : decode cX1_isLoad 19 = .ok (.ireturn, 1) := by decide +kernel
set_option maxRecDepth 20000 in
theorem ggX1_write_X1_isBook : GoodIn wsX1_write wsX1_isBook := goodIn_r _ [6] (by decide +kernel) (by decide +kernel)
set_option maxRecDepth 20000 in
theorem gX1_write_X1_isBook : GoodIn wsX1_write (va_wsS RX1 46 yX1_isBook wsX1_isBook) := goodIn_app (goodIn_of _ (by decide +kernel)) ggX1_write_X1_isBook
set_option maxRecDepth 20000 in
theorem ggX1_write_X1_isLoad : GoodIn wsX1_write wsX1_isLoad := goodIn_r _ [9] (by decide +kernel) (by decide +kernel)
set_option maxRecDepth 20000 in
theorem gX1_write_X1_isLoad : GoodIn wsX1_write (va_wsS RX1 58 yX1_isLoad wsX1_isLoad) := goodIn_app (goodIn_of _ (by decide +kernel)) ggX1_write_X1_isLoad
set_option maxRecDepth 20000 in
theorem ggX1_write_X1_put : GoodIn wsX1_write wsX1_put := goodIn_r _ [13, 14, 15, 16, 17, 5, 18, 2, 19, 20, 21, 22, 23, 24, 25, 26, 27, 28, 35, 36, 37, 38, 39, 40, 41, 42, 43, 44, 45, 46] (by decide +kernel) (by decide +kernel)
set_option maxRecDepth 20000 in
theorem gX1_write_X1_put : GoodIn wsX1_write (wsV RX1 61 RX1 yX1_put wsX1_put) := goodIn_app (goodIn_of _ (by decide +kernel)) ggX1_write_X1_put
set_option maxRecDepth 20000 in
theorem ggX1_write_X1_answer : GoodIn wsX1_write wsX1_answer := goodIn_r _ [32, 2, 33, 34, 35, 36, 37, 38, 39, 40, 41, 42, 43, 44, 45, 46] (by decide +kernel) (by decide +kernel)
set_option maxRecDepth 20000 in
theorem gX1_write_X1_answer : GoodIn wsX1_write (wsV RX1 51 RX1 yX1_answer wsX1_answer) := goodIn_app (goodIn_of _ (by decide +kernel)) ggX1_write_X1_answer
theorem dX1_write_0 : decode cX1_write 0 = .ok (.iload_n 1, 1) := by decide +kernel
theorem dX1_write_1 : decode cX1_write 1 = .ok (.invokestatic 46, 3) := by decide +kernel
theorem dX1_write_4 : decode cX1_write 4 = .ok (.ifCond .eq 15, 3) := by decide +kernel
theorem dX1_write_7 : decode cX1_write 7 = .ok (.iload_n 1, 1) := by decide +kernel
theorem dX1_write_8 : decode cX1_write 8 = .ok (.iconst 2, 1) := by decide +kernel
theorem dX1_write_9 : decode cX1_write 9 = .ok (.if_icmp .ne 13, 3) := by decide +kernel
theorem dX1_write_12 : decode cX1_write 12 = .ok (.iload_n 3, 1) := by decide +kernel
theorem dX1_write_13 : decode cX1_write 13 = .ok (.invokestatic 58, 3) := by decide +kernel
theorem dX1_write_16 : decode cX1_write 16 = .ok (.ifCond .ne 6, 3) := by decide +kernel
theorem dX1_write_19 : decode cX1_write 19 = .ok (.ldc 50, 2) := by decide +kernel
theorem dX1_write_21 : decode cX1_write 21 = .ok (.ireturn, 1) := by decide +kernel
theorem dX1_write_22 : decode cX1_write 22 = .ok (.aload_n 0, 1) := by decide +kernel
theorem dX1_write_23 : decode cX1_write 23 = .ok (.iconst 0, 1) := by decide +kernel
theorem dX1_write_24 : decode cX1_write 24 = .ok (.putfield 23, 3) := by decide +kernel
theorem dX1_write_27 : decode cX1_write 27 = .ok (.aload_n 0, 1) := by decide +kernel
theorem dX1_write_28 : decode cX1_write 28 = .ok (.iload_n 1, 1) := by decide +kernel
theorem dX1_write_29 : decode cX1_write 29 = .ok (.iload_n 2, 1) := by decide +kernel
theorem dX1_write_30 : decode cX1_write 30 = .ok (.iload_n 3, 1) := by decide +kernel
theorem dX1_write_31 : decode cX1_write 31 = .ok (.invokevirtual 61, 3) := by decide +kernel
theorem dX1_write_34 : decode cX1_write 34 = .ok (.aload_n 0, 1) := by decide +kernel
theorem dX1_write_35 : decode cX1_write 35 = .ok (.iconst 0, 1) := by decide +kernel
theorem dX1_write_36 : decode cX1_write 36 = .ok (.invokevirtual 51, 3) := by decide +kernel
theorem dX1_write_39 : decode cX1_write 39 = .ok (.ireturn, 1) := by decide +kernel
theorem dX1_gate_0 : decode cX1_gate 0 = .ok (.iload_n 2, 1) := by decide +kernel
theorem dX1_gate_1 : decode cX1_gate 1 = .ok (.iconst 1, 1) := by decide +kernel
theorem dX1_gate_2 : decode cX1_gate 2 = .ok (.iand, 1) := by decide +kernel
theorem dX1_gate_3 : decode cX1_gate 3 = .ok (.istore_n 3, 1) := by decide +kernel
theorem dX1_gate_4 : decode cX1_gate 4 = .ok (.iload_n 1, 1) := by decide +kernel
theorem dX1_gate_5 : decode cX1_gate 5 = .ok (.ifCond .ne 19, 3) := by decide +kernel
theorem dX1_gate_8 : decode cX1_gate 8 = .ok (.iload_n 0, 1) := by decide +kernel
theorem dX1_gate_9 : decode cX1_gate 9 = .ok (.iconst 1, 1) := by decide +kernel
theorem dX1_gate_10 : decode cX1_gate 10 = .ok (.if_icmp .eq 8, 3) := by decide +kernel
theorem dX1_gate_13 : decode cX1_gate 13 = .ok (.iload_n 3, 1) := by decide +kernel
theorem dX1_gate_14 : decode cX1_gate 14 = .ok (.iconst 1, 1) := by decide +kernel
theorem dX1_gate_15 : decode cX1_gate 15 = .ok (.if_icmp .ne 7, 3) := by decide +kernel
theorem dX1_gate_18 : decode cX1_gate 18 = .ok (.iconst 1, 1) := by decide +kernel
theorem dX1_gate_19 : decode cX1_gate 19 = .ok (.goto 4, 3) := by decide +kernel
theorem dX1_gate_22 : decode cX1_gate 22 = .ok (.iconst 0, 1) := by decide +kernel
theorem dX1_gate_23 : decode cX1_gate 23 = .ok (.ireturn, 1) := by decide +kernel
theorem dX1_gate_24 : decode cX1_gate 24 = .ok (.iload_n 1, 1) := by decide +kernel
theorem dX1_gate_25 : decode cX1_gate 25 = .ok (.iconst 1, 1) := by decide +kernel
theorem dX1_gate_26 : decode cX1_gate 26 = .ok (.if_icmp .ne 19, 3) := by decide +kernel
theorem dX1_gate_29 : decode cX1_gate 29 = .ok (.iload_n 0, 1) := by decide +kernel
theorem dX1_gate_30 : decode cX1_gate 30 = .ok (.iconst 1, 1) := by decide +kernel
theorem dX1_gate_31 : decode cX1_gate 31 = .ok (.if_icmp .ne 12, 3) := by decide +kernel
theorem dX1_gate_34 : decode cX1_gate 34 = .ok (.iload_n 3, 1) := by decide +kernel
theorem dX1_gate_35 : decode cX1_gate 35 = .ok (.iconst 1, 1) := by decide +kernel
theorem dX1_gate_36 : decode cX1_gate 36 = .ok (.if_icmp .ne 7, 3) := by decide +kernel
theorem dX1_gate_39 : decode cX1_gate 39 = .ok (.iconst 1, 1) := by decide +kernel
theorem dX1_gate_40 : decode cX1_gate 40 = .ok (.goto 4, 3) := by decide +kernel
theorem dX1_gate_43 : decode cX1_gate 43 = .ok (.iconst 0, 1) := by decide +kernel
theorem dX1_gate_44 : decode cX1_gate 44 = .ok (.ireturn, 1) := by decide +kernel
theorem dX1_gate_45 : decode cX1_gate 45 = .ok (.iload_n 1, 1) := by decide +kernel
theorem dX1_gate_46 : decode cX1_gate 46 = .ok (.iconst 2, 1) := by decide +kernel
