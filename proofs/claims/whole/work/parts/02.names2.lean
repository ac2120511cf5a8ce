set_option maxRecDepth 20000 in
theorem ggX0_init_X0_nearest : GoodIn wsX0_init wsX0_nearest := goodIn_r _ [19, 20, 21, 22, 23, 24, 25, 26] (by decide +kernel) (by decide +kernel)
set_option maxRecDepth 20000 in
theorem gX0_init_X0_nearest : GoodIn wsX0_init (va_wsS RX0 40 yX0_nearest wsX0_nearest) := goodIn_app (goodIn_of _ (by decide +kernel)) ggX0_init_X0_nearest
set_option maxRecDepth 20000 in
theorem ggX0_init_J7_fill_53178 : GoodIn wsX0_init wsJ7_fill_53178 := goodIn_r _ [30] (by decide +kernel) (by decide +kernel)
set_option maxRecDepth 20000 in
theorem gX0_init_J7_fill_53178 : GoodIn wsX0_init (va_wsS RX0 47 yJ7_fill_53178 wsJ7_fill_53178) := goodIn_app (goodIn_of _ (by decide +kernel)) ggX0_init_J7_fill_53178
theorem dX0_init_0 : decode cX0_init 0 = .ok (.aload_n 0, 1) := by decide +kernel
theorem dX0_init_1 : decode cX0_init 1 = .ok (.invokespecial 1, 3) := by decide +kernel
theorem dX0_init_4 : decode cX0_init 4 = .ok (.aload_n 0, 1) := by decide +kernel
theorem dX0_init_5 : decode cX0_init 5 = .ok (.iconst 5, 1) := by decide +kernel
theorem dX0_init_6 : decode cX0_init 6 = .ok (.newarray .int, 2) := by decide +kernel
theorem dX0_init_8 : decode cX0_init 8 = .ok (.putfield 9, 3) := by decide +kernel
theorem dX0_init_11 : decode cX0_init 11 = .ok (.aload_n 0, 1) := by decide +kernel
theorem dX0_init_12 : decode cX0_init 12 = .ok (.iconst 5, 1) := by decide +kernel
theorem dX0_init_13 : decode cX0_init 13 = .ok (.bipush 24, 2) := by decide +kernel
theorem dX0_init_15 : decode cX0_init 15 = .ok (.multianewarray 13 2, 4) := by decide +kernel
theorem dX0_init_19 : decode cX0_init 19 = .ok (.putfield 15, 3) := by decide +kernel
theorem dX0_init_22 : decode cX0_init 22 = .ok (.aload_n 0, 1) := by decide +kernel
theorem dX0_init_23 : decode cX0_init 23 = .ok (.bipush 24, 2) := by decide +kernel
theorem dX0_init_25 : decode cX0_init 25 = .ok (.bipush 24, 2) := by decide +kernel
theorem dX0_init_27 : decode cX0_init 27 = .ok (.multianewarray 13 2, 4) := by decide +kernel
theorem dX0_init_31 : decode cX0_init 31 = .ok (.putfield 18, 3) := by decide +kernel
theorem dX0_init_34 : decode cX0_init 34 = .ok (.aload_n 0, 1) := by decide +kernel
theorem dX0_init_35 : decode cX0_init 35 = .ok (.iconst (-1), 1) := by decide +kernel
theorem dX0_init_36 : decode cX0_init 36 = .ok (.putfield 21, 3) := by decide +kernel
theorem dX0_init_39 : decode cX0_init 39 = .ok (.aload_n 0, 1) := by decide +kernel
theorem dX0_init_40 : decode cX0_init 40 = .ok (.iconst 0, 1) := by decide +kernel
theorem dX0_init_41 : decode cX0_init 41 = .ok (.putfield 25, 3) := by decide +kernel
theorem dX0_init_44 : decode cX0_init 44 = .ok (.aload_n 0, 1) := by decide +kernel
theorem dX0_init_45 : decode cX0_init 45 = .ok (.iconst 0, 1) := by decide +kernel
theorem dX0_init_46 : decode cX0_init 46 = .ok (.putfield 28, 3) := by decide +kernel
theorem dX0_init_49 : decode cX0_init 49 = .ok (.aload_n 0, 1) := by decide +kernel
theorem dX0_init_50 : decode cX0_init 50 = .ok (.iconst 0, 1) := by decide +kernel
theorem dX0_init_51 : decode cX0_init 51 = .ok (.putfield 31, 3) := by decide +kernel
theorem dX0_init_54 : decode cX0_init 54 = .ok (.aload_n 0, 1) := by decide +kernel
theorem dX0_init_55 : decode cX0_init 55 = .ok (.iconst 0, 1) := by decide +kernel
theorem dX0_init_56 : decode cX0_init 56 = .ok (.putfield 34, 3) := by decide +kernel
theorem dX0_init_59 : decode cX0_init 59 = .ok (.aload_n 0, 1) := by decide +kernel
theorem dX0_init_60 : decode cX0_init 60 = .ok (.iconst 0, 1) := by decide +kernel
theorem dX0_init_61 : decode cX0_init 61 = .ok (.putfield 37, 3) := by decide +kernel
theorem dX0_init_64 : decode cX0_init 64 = .ok (.aload_n 0, 1) := by decide +kernel
theorem dX0_init_65 : decode cX0_init 65 = .ok (.iload_n 1, 1) := by decide +kernel
theorem dX0_init_66 : decode cX0_init 66 = .ok (.iconst 1, 1) := by decide +kernel
theorem dX0_init_67 : decode cX0_init 67 = .ok (.bipush 24, 2) := by decide +kernel
theorem dX0_init_69 : decode cX0_init 69 = .ok (.invokestatic 40, 3) := by decide +kernel
theorem dX0_init_72 : decode cX0_init 72 = .ok (.putfield 44, 3) := by decide +kernel
theorem dX0_init_75 : decode cX0_init 75 = .ok (.aload_n 0, 1) := by decide +kernel
theorem dX0_init_76 : decode cX0_init 76 = .ok (.getfield 9, 3) := by decide +kernel
theorem dX0_init_79 : decode cX0_init 79 = .ok (.iconst (-1), 1) := by decide +kernel
theorem dX0_init_80 : decode cX0_init 80 = .ok (.invokestatic 47, 3) := by decide +kernel
theorem dX0_init_83 : decode cX0_init 83 = .ok (.return_, 1) := by decide +kernel
set_option maxRecDepth 20000 in
theorem ggX0_keep_X0_isBook : GoodIn wsX0_keep wsX0_isBook := goodIn_r _ [7] (by decide +kernel) (by decide +kernel)
set_option maxRecDepth 20000 in
theorem gX0_keep_X0_isBook : GoodIn wsX0_keep (va_wsS RX0 53 yX0_isBook wsX0_isBook) := goodIn_app (goodIn_of _ (by decide +kernel)) ggX0_keep_X0_isBook
set_option maxRecDepth 20000 in
theorem ggX0_keep_J7_fill_53178 : GoodIn wsX0_keep wsJ7_fill_53178 := goodIn_r _ [11] (by decide +kernel) (by decide +kernel)
set_option maxRecDepth 20000 in
theorem gX0_keep_J7_fill_53178 : GoodIn wsX0_keep (va_wsS RX0 47 yJ7_fill_53178 wsJ7_fill_53178) := goodIn_app (goodIn_of _ (by decide +kernel)) ggX0_keep_J7_fill_53178
theorem dX0_keep_0 : decode cX0_keep 0 = .ok (.iload_n 1, 1) := by decide +kernel
theorem dX0_keep_1 : decode cX0_keep 1 = .ok (.invokestatic 53, 3) := by decide +kernel
theorem dX0_keep_4 : decode cX0_keep 4 = .ok (.ifCond .ne 6, 3) := by decide +kernel
theorem dX0_keep_7 : decode cX0_keep 7 = .ok (.ldc 57, 2) := by decide +kernel
theorem dX0_keep_9 : decode cX0_keep 9 = .ok (.ireturn, 1) := by decide +kernel
theorem dX0_keep_10 : decode cX0_keep 10 = .ok (.iload_n 2, 1) := by decide +kernel
theorem dX0_keep_11 : decode cX0_keep 11 = .ok (.bipush 24, 2) := by decide +kernel
theorem dX0_keep_13 : decode cX0_keep 13 = .ok (.if_icmp .le 6, 3) := by decide +kernel
theorem dX0_keep_16 : decode cX0_keep 16 = .ok (.bipush (-2), 2) := by decide +kernel
theorem dX0_keep_18 : decode cX0_keep 18 = .ok (.ireturn, 1) := by decide +kernel
theorem dX0_keep_19 : decode cX0_keep 19 = .ok (.iload_n 2, 1) := by decide +kernel
theorem dX0_keep_20 : decode cX0_keep 20 = .ok (.ifCond .ge 6, 3) := by decide +kernel
theorem dX0_keep_23 : decode cX0_keep 23 = .ok (.bipush (-3), 2) := by decide +kernel
theorem dX0_keep_25 : decode cX0_keep 25 = .ok (.ireturn, 1) := by decide +kernel
theorem dX0_keep_26 : decode cX0_keep 26 = .ok (.aload_n 0, 1) := by decide +kernel
theorem dX0_keep_27 : decode cX0_keep 27 = .ok (.getfield 15, 3) := by decide +kernel
theorem dX0_keep_30 : decode cX0_keep 30 = .ok (.iload_n 1, 1) := by decide +kernel
theorem dX0_keep_31 : decode cX0_keep 31 = .ok (.aaload, 1) := by decide +kernel
theorem dX0_keep_32 : decode cX0_keep 32 = .ok (.iconst 0, 1) := by decide +kernel
theorem dX0_keep_33 : decode cX0_keep 33 = .ok (.invokestatic 47, 3) := by decide +kernel
theorem dX0_keep_36 : decode cX0_keep 36 = .ok (.aload_n 0, 1) := by decide +kernel
theorem dX0_keep_37 : decode cX0_keep 37 = .ok (.getfield 9, 3) := by decide +kernel
theorem dX0_keep_40 : decode cX0_keep 40 = .ok (.iload_n 1, 1) := by decide +kernel
theorem dX0_keep_41 : decode cX0_keep 41 = .ok (.iload_n 2, 1) := by decide +kernel
theorem dX0_keep_42 : decode cX0_keep 42 = .ok (.iastore, 1) := by decide +kernel
theorem dX0_keep_43 : decode cX0_keep 43 = .ok (.iconst 0, 1) := by decide +kernel
theorem dX0_keep_44 : decode cX0_keep 44 = .ok (.ireturn, 1) := by decide +kernel
set_option maxRecDepth 20000 in
theorem ggX0_lose_X0_isBook : GoodIn wsX0_lose wsX0_isBook := goodIn_r _ [6] (by decide +kernel) (by decide +kernel)
set_option maxRecDepth 20000 in
theorem gX0_lose_X0_isBook : GoodIn wsX0_lose (va_wsS RX0 53 yX0_isBook wsX0_isBook) := goodIn_app (goodIn_of _ (by decide +kernel)) ggX0_lose_X0_isBook
theorem dX0_lose_0 : decode cX0_lose 0 = .ok (.iload_n 1, 1) := by decide +kernel
theorem dX0_lose_1 : decode cX0_lose 1 = .ok (.invokestatic 53, 3) := by decide +kernel
theorem dX0_lose_4 : decode cX0_lose 4 = .ok (.ifCond .ne 6, 3) := by decide +kernel
theorem dX0_lose_7 : decode cX0_lose 7 = .ok (.ldc 57, 2) := by decide +kernel
theorem dX0_lose_9 : decode cX0_lose 9 = .ok (.ireturn, 1) := by decide +kernel
theorem dX0_lose_10 : decode cX0_lose 10 = .ok (.aload_n 0, 1) := by decide +kernel
theorem dX0_lose_11 : decode cX0_lose 11 = .ok (.getfield 9, 3) := by decide +kernel
theorem dX0_lose_14 : decode cX0_lose 14 = .ok (.iload_n 1, 1) := by decide +kernel
theorem dX0_lose_15 : decode cX0_lose 15 = .ok (.iaload, 1) := by decide +kernel
theorem dX0_lose_16 : decode cX0_lose 16 = .ok (.iconst (-1), 1) := by decide +kernel
theorem dX0_lose_17 : decode cX0_lose 17 = .ok (.if_icmp .ne 5, 3) := by decide +kernel
theorem dX0_lose_20 : decode cX0_lose 20 = .ok (.iconst 0, 1) := by decide +kernel
theorem dX0_lose_21 : decode cX0_lose 21 = .ok (.ireturn, 1) := by decide +kernel
theorem dX0_lose_22 : decode cX0_lose 22 = .ok (.aload_n 0, 1) := by decide +kernel
theorem dX0_lose_23 : decode cX0_lose 23 = .ok (.getfield 9, 3) := by decide +kernel
theorem dX0_lose_26 : decode cX0_lose 26 = .ok (.iload_n 1, 1) := by decide +kernel
theorem dX0_lose_27 : decode cX0_lose 27 = .ok (.iconst (-1), 1) := by decide +kernel
theorem dX0_lose_28 : decode cX0_lose 28 = .ok (.iastore, 1) := by decide +kernel
theorem dX0_lose_29 : decode cX0_lose 29 = .ok (.iconst 1, 1) := by decide +kernel
theorem dX0_lose_30 : decode cX0_lose 30 = .ok (.ireturn, 1) := by decide +kernel
set_option maxRecDepth 20000 in
theorem ggX0_lines_X0_isBook : GoodIn wsX0_lines wsX0_isBook := goodIn_r _ [7] (by decide +kernel) (by decide +kernel)
set_option maxRecDepth 20000 in
theorem gX0_lines_X0_isBook : GoodIn wsX0_lines (va_wsS RX0 53 yX0_isBook wsX0_isBook) := goodIn_app (goodIn_of _ (by decide +kernel)) ggX0_lines_X0_isBook
set_option maxRecDepth 20000 in
theorem ggX0_lines_X0_endsAtBook : GoodIn wsX0_lines wsX0_endsAtBook := goodIn_r _ [11, 3, 12, 13, 14, 15, 6, 16, 17, 2, 18, 19, 20, 21, 22, 23, 24, 25, 26, 27] (by decide +kernel) (by decide +kernel)
set_option maxRecDepth 20000 in
theorem gX0_lines_X0_endsAtBook : GoodIn wsX0_lines (wsV RX0 58 RX0 yX0_endsAtBook wsX0_endsAtBook) := goodIn_app (goodIn_of _ (by decide +kernel)) ggX0_lines_X0_endsAtBook
theorem dX0_lines_0 : decode cX0_lines 0 = .ok (.iload_n 1, 1) := by decide +kernel
theorem dX0_lines_1 : decode cX0_lines 1 = .ok (.invokestatic 53, 3) := by decide +kernel
theorem dX0_lines_4 : decode cX0_lines 4 = .ok (.ifCond .ne 6, 3) := by decide +kernel
theorem dX0_lines_7 : decode cX0_lines 7 = .ok (.ldc 57, 2) := by decide +kernel
theorem dX0_lines_9 : decode cX0_lines 9 = .ok (.ireturn, 1) := by decide +kernel
theorem dX0_lines_10 : decode cX0_lines 10 = .ok (.aload_n 0, 1) := by decide +kernel
theorem dX0_lines_11 : decode cX0_lines 11 = .ok (.iload_n 1, 1) := by decide +kernel
theorem dX0_lines_12 : decode cX0_lines 12 = .ok (.invokevirtual 58, 3) := by decide +kernel
theorem dX0_lines_15 : decode cX0_lines 15 = .ok (.ifCond .eq 8, 3) := by decide +kernel
theorem dX0_lines_18 : decode cX0_lines 18 = .ok (.aload_n 0, 1) := by decide +kernel
theorem dX0_lines_19 : decode cX0_lines 19 = .ok (.getfield 37, 3) := by decide +kernel
theorem dX0_lines_22 : decode cX0_lines 22 = .ok (.ireturn, 1) := by decide +kernel
theorem dX0_lines_23 : decode cX0_lines 23 = .ok (.aload_n 0, 1) := by decide +kernel
theorem dX0_lines_24 : decode cX0_lines 24 = .ok (.getfield 9, 3) := by decide +kernel
theorem dX0_lines_27 : decode cX0_lines 27 = .ok (.iload_n 1, 1) := by decide +kernel
theorem dX0_lines_28 : decode cX0_lines 28 = .ok (.iaload, 1) := by decide +kernel
theorem dX0_lines_29 : decode cX0_lines 29 = .ok (.ireturn, 1) := by decide +kernel
set_option maxRecDepth 20000 in
theorem ggX0_read_X0_isBook : GoodIn wsX0_read wsX0_isBook := goodIn_r _ [7] (by decide +kernel) (by decide +kernel)
set_option maxRecDepth 20000 in
theorem gX0_read_X0_isBook : GoodIn wsX0_read (va_wsS RX0 53 yX0_isBook wsX0_isBook) := goodIn_app (goodIn_of _ (by decide +kernel)) ggX0_read_X0_isBook
set_option maxRecDepth 20000 in
theorem ggX0_read_X0_endsAtLine : GoodIn wsX0_read wsX0_endsAtLine := goodIn_r _ [11, 12, 13, 14, 15, 16, 6, 17, 18, 19, 20, 21, 22, 23, 2, 24, 25, 26, 27, 28, 29, 30, 31, 32, 33] (by decide +kernel) (by decide +kernel)
set_option maxRecDepth 20000 in
theorem gX0_read_X0_endsAtLine : GoodIn wsX0_read (wsV RX0 61 RX0 yX0_endsAtLine wsX0_endsAtLine) := goodIn_app (goodIn_of _ (by decide +kernel)) ggX0_read_X0_endsAtLine
theorem dX0_read_0 : decode cX0_read 0 = .ok (.iload_n 1, 1) := by decide +kernel
theorem dX0_read_1 : decode cX0_read 1 = .ok (.invokestatic 53, 3) := by decide +kernel
theorem dX0_read_4 : decode cX0_read 4 = .ok (.ifCond .ne 6, 3) := by decide +kernel
theorem dX0_read_7 : decode cX0_read 7 = .ok (.ldc 57, 2) := by decide +kernel
theorem dX0_read_9 : decode cX0_read 9 = .ok (.ireturn, 1) := by decide +kernel
theorem dX0_read_10 : decode cX0_read 10 = .ok (.aload_n 0, 1) := by decide +kernel
theorem dX0_read_11 : decode cX0_read 11 = .ok (.iload_n 1, 1) := by decide +kernel
theorem dX0_read_12 : decode cX0_read 12 = .ok (.iload_n 2, 1) := by decide +kernel
theorem dX0_read_13 : decode cX0_read 13 = .ok (.invokevirtual 61, 3) := by decide +kernel
theorem dX0_read_16 : decode cX0_read 16 = .ok (.ifCond .eq 8, 3) := by decide +kernel
theorem dX0_read_19 : decode cX0_read 19 = .ok (.aload_n 0, 1) := by decide +kernel
theorem dX0_read_20 : decode cX0_read 20 = .ok (.getfield 37, 3) := by decide +kernel
theorem dX0_read_23 : decode cX0_read 23 = .ok (.ireturn, 1) := by decide +kernel
theorem dX0_read_24 : decode cX0_read 24 = .ok (.aload_n 0, 1) := by decide +kernel
theorem dX0_read_25 : decode cX0_read 25 = .ok (.getfield 15, 3) := by decide +kernel
theorem dX0_read_28 : decode cX0_read 28 = .ok (.iload_n 1, 1) := by decide +kernel
theorem dX0_read_29 : decode cX0_read 29 = .ok (.aaload, 1) := by decide +kernel
theorem dX0_read_30 : decode cX0_read 30 = .ok (.iload_n 2, 1) := by decide +kernel
theorem dX0_read_31 : decode cX0_read 31 = .ok (.iaload, 1) := by decide +kernel
theorem dX0_read_32 : decode cX0_read 32 = .ok (.ireturn, 1) := by decide +kernel
set_option maxRecDepth 20000 in
theorem ggX0_write_X0_isBook : GoodIn wsX0_write wsX0_isBook := goodIn_r _ [6] (by decide +kernel) (by decide +kernel)
set_option maxRecDepth 20000 in
theorem gX0_write_X0_isBook : GoodIn wsX0_write (va_wsS RX0 53 yX0_isBook wsX0_isBook) := goodIn_app (goodIn_of _ (by decide +kernel)) ggX0_write_X0_isBook
set_option maxRecDepth 20000 in
theorem ggX0_write_X0_isToldLoad : GoodIn wsX0_write wsX0_isToldLoad := goodIn_r _ [9] (by decide +kernel) (by decide +kernel)
set_option maxRecDepth 20000 in
theorem gX0_write_X0_isToldLoad : GoodIn wsX0_write (va_wsS RX0 65 yX0_isToldLoad wsX0_isToldLoad) := goodIn_app (goodIn_of _ (by decide +kernel)) ggX0_write_X0_isToldLoad
set_option maxRecDepth 20000 in
theorem ggX0_write_X0_endsAtLine : GoodIn wsX0_write wsX0_endsAtLine := goodIn_r _ [13, 14, 15, 16, 17, 18, 5, 19, 20, 21, 22, 23, 24, 25, 2, 47, 48, 49, 50, 51, 52, 53, 54, 55, 56] (by decide +kernel) (by decide +kernel)
set_option maxRecDepth 20000 in
theorem gX0_write_X0_endsAtLine : GoodIn wsX0_write (wsV RX0 61 RX0 yX0_endsAtLine wsX0_endsAtLine) := goodIn_app (goodIn_of _ (by decide +kernel)) ggX0_write_X0_endsAtLine
set_option maxRecDepth 20000 in
theorem ggX0_write_X0_put : GoodIn wsX0_write wsX0_put := goodIn_r _ [29, 30, 31, 32, 5, 33, 34, 35, 36, 37, 38, 39, 40, 41, 42, 43, 44, 45, 46, 47, 48, 49, 50, 51, 52, 53, 54, 55, 56] (by decide +kernel) (by decide +kernel)
set_option maxRecDepth 20000 in
theorem gX0_write_X0_put : GoodIn wsX0_write (wsV RX0 68 RX0 yX0_put wsX0_put) := goodIn_app (goodIn_of _ (by decide +kernel)) ggX0_write_X0_put
theorem dX0_write_0 : decode cX0_write 0 = .ok (.iload_n 1, 1) := by decide +kernel
theorem dX0_write_1 : decode cX0_write 1 = .ok (.invokestatic 53, 3) := by decide +kernel
theorem dX0_write_4 : decode cX0_write 4 = .ok (.ifCond .eq 15, 3) := by decide +kernel
theorem dX0_write_7 : decode cX0_write 7 = .ok (.iload_n 1, 1) := by decide +kernel
theorem dX0_write_8 : decode cX0_write 8 = .ok (.iconst 2, 1) := by decide +kernel
theorem dX0_write_9 : decode cX0_write 9 = .ok (.if_icmp .ne 13, 3) := by decide +kernel
theorem dX0_write_12 : decode cX0_write 12 = .ok (.iload_n 3, 1) := by decide +kernel
theorem dX0_write_13 : decode cX0_write 13 = .ok (.invokestatic 65, 3) := by decide +kernel
theorem dX0_write_16 : decode cX0_write 16 = .ok (.ifCond .ne 6, 3) := by decide +kernel
theorem dX0_write_19 : decode cX0_write 19 = .ok (.ldc 57, 2) := by decide +kernel
theorem dX0_write_21 : decode cX0_write 21 = .ok (.ireturn, 1) := by decide +kernel
theorem dX0_write_22 : decode cX0_write 22 = .ok (.aload_n 0, 1) := by decide +kernel
theorem dX0_write_23 : decode cX0_write 23 = .ok (.iload_n 1, 1) := by decide +kernel
theorem dX0_write_24 : decode cX0_write 24 = .ok (.iload_n 2, 1) := by decide +kernel
theorem dX0_write_25 : decode cX0_write 25 = .ok (.invokevirtual 61, 3) := by decide +kernel
theorem dX0_write_28 : decode cX0_write 28 = .ok (.ifCond .eq 8, 3) := by decide +kernel
theorem dX0_write_31 : decode cX0_write 31 = .ok (.aload_n 0, 1) := by decide +kernel
theorem dX0_write_32 : decode cX0_write 32 = .ok (.getfield 37, 3) := by decide +kernel
theorem dX0_write_35 : decode cX0_write 35 = .ok (.ireturn, 1) := by decide +kernel
theorem dX0_write_36 : decode cX0_write 36 = .ok (.aload_n 0, 1) := by decide +kernel
theorem dX0_write_37 : decode cX0_write 37 = .ok (.iload_n 1, 1) := by decide +kernel
theorem dX0_write_38 : decode cX0_write 38 = .ok (.iload_n 2, 1) := by decide +kernel
theorem dX0_write_39 : decode cX0_write 39 = .ok (.iload_n 3, 1) := by decide +kernel
theorem dX0_write_40 : decode cX0_write 40 = .ok (.invokevirtual 68, 3) := by decide +kernel
theorem dX0_write_43 : decode cX0_write 43 = .ok (.iconst 0, 1) := by decide +kernel
theorem dX0_write_44 : decode cX0_write 44 = .ok (.ireturn, 1) := by decide +kernel
set_option maxRecDepth 20000 in
theorem ggX0_change_X0_isBook : GoodIn wsX0_change wsX0_isBook := goodIn_r _ [7] (by decide +kernel) (by decide +kernel)
set_option maxRecDepth 20000 in
theorem gX0_change_X0_isBook : GoodIn wsX0_change (va_wsS RX0 53 yX0_isBook wsX0_isBook) := goodIn_app (goodIn_of _ (by decide +kernel)) ggX0_change_X0_isBook
set_option maxRecDepth 20000 in
theorem ggX0_change_X0_isToldLoad : GoodIn wsX0_change wsX0_isToldLoad := goodIn_r _ [10] (by decide +kernel) (by decide +kernel)
set_option maxRecDepth 20000 in
theorem gX0_change_X0_isToldLoad : GoodIn wsX0_change (va_wsS RX0 65 yX0_isToldLoad wsX0_isToldLoad) := goodIn_app (goodIn_of _ (by decide +kernel)) ggX0_change_X0_isToldLoad
set_option maxRecDepth 20000 in
theorem ggX0_change_X0_endsAtLine : GoodIn wsX0_change wsX0_endsAtLine := goodIn_r _ [14, 15, 16, 17, 18, 19, 6, 20, 21, 22, 23, 24, 25, 26, 2, 53, 54, 55, 56, 57, 58, 59, 60, 61, 62] (by decide +kernel) (by decide +kernel)
set_option maxRecDepth 20000 in
theorem gX0_change_X0_endsAtLine : GoodIn wsX0_change (wsV RX0 61 RX0 yX0_endsAtLine wsX0_endsAtLine) := goodIn_app (goodIn_of _ (by decide +kernel)) ggX0_change_X0_endsAtLine
set_option maxRecDepth 20000 in
theorem ggX0_change_X0_changed : GoodIn wsX0_change wsX0_changed := goodIn_r _ [29, 30, 31, 6, 32] (by decide +kernel) (by decide +kernel)
set_option maxRecDepth 20000 in
theorem gX0_change_X0_changed : GoodIn wsX0_change (va_wsS RX0 72 yX0_changed wsX0_changed) := goodIn_app (goodIn_of _ (by decide +kernel)) ggX0_change_X0_changed
set_option maxRecDepth 20000 in
theorem ggX0_change_X0_put : GoodIn wsX0_change wsX0_put := goodIn_r _ [36, 3, 37, 38, 6, 39, 40, 41, 42, 43, 44, 45, 46, 47, 48, 49, 50, 51, 52, 53, 54, 55, 56, 57, 58, 59, 60, 61, 62] (by decide +kernel) (by decide +kernel)
set_option maxRecDepth 20000 in
theorem gX0_change_X0_put : GoodIn wsX0_change (wsV RX0 68 RX0 yX0_put wsX0_put) := goodIn_app (goodIn_of _ (by decide +kernel)) ggX0_change_X0_put
theorem dX0_change_0 : decode cX0_change 0 = .ok (.iload_n 1, 1) := by decide +kernel
theorem dX0_change_1 : decode cX0_change 1 = .ok (.invokestatic 53, 3) := by decide +kernel
theorem dX0_change_4 : decode cX0_change 4 = .ok (.ifCond .eq 12, 3) := by decide +kernel
theorem dX0_change_7 : decode cX0_change 7 = .ok (.iload_n 3, 1) := by decide +kernel
theorem dX0_change_8 : decode cX0_change 8 = .ok (.ifCond .lt 8, 3) := by decide +kernel
theorem dX0_change_11 : decode cX0_change 11 = .ok (.iload_n 3, 1) := by decide +kernel
theorem dX0_change_12 : decode cX0_change 12 = .ok (.iconst 3, 1) := by decide +kernel
theorem dX0_change_13 : decode cX0_change 13 = .ok (.if_icmp .le 6, 3) := by decide +kernel
theorem dX0_change_16 : decode cX0_change 16 = .ok (.ldc 57, 2) := by decide +kernel
theorem dX0_change_18 : decode cX0_change 18 = .ok (.ireturn, 1) := by decide +kernel
theorem dX0_change_19 : decode cX0_change 19 = .ok (.iload_n 1, 1) := by decide +kernel
theorem dX0_change_20 : decode cX0_change 20 = .ok (.iconst 2, 1) := by decide +kernel
theorem dX0_change_21 : decode cX0_change 21 = .ok (.if_icmp .ne 23, 3) := by decide +kernel
theorem dX0_change_24 : decode cX0_change 24 = .ok (.iload_n 3, 1) := by decide +kernel
theorem dX0_change_25 : decode cX0_change 25 = .ok (.ifCond .eq 8, 3) := by decide +kernel
theorem dX0_change_28 : decode cX0_change 28 = .ok (.iload_n 3, 1) := by decide +kernel
theorem dX0_change_29 : decode cX0_change 29 = .ok (.iconst 1, 1) := by decide +kernel
theorem dX0_change_30 : decode cX0_change 30 = .ok (.if_icmp .ne 14, 3) := by decide +kernel
theorem dX0_change_33 : decode cX0_change 33 = .ok (.iload 4, 2) := by decide +kernel
theorem dX0_change_35 : decode cX0_change 35 = .ok (.invokestatic 65, 3) := by decide +kernel
theorem dX0_change_38 : decode cX0_change 38 = .ok (.ifCond .ne 6, 3) := by decide +kernel
theorem dX0_change_41 : decode cX0_change 41 = .ok (.ldc 57, 2) := by decide +kernel
theorem dX0_change_43 : decode cX0_change 43 = .ok (.ireturn, 1) := by decide +kernel
theorem dX0_change_44 : decode cX0_change 44 = .ok (.aload_n 0, 1) := by decide +kernel
theorem dX0_change_45 : decode cX0_change 45 = .ok (.iload_n 1, 1) := by decide +kernel
theorem dX0_change_46 : decode cX0_change 46 = .ok (.iload_n 2, 1) := by decide +kernel
theorem dX0_change_47 : decode cX0_change 47 = .ok (.invokevirtual 61, 3) := by decide +kernel
theorem dX0_change_50 : decode cX0_change 50 = .ok (.ifCond .eq 8, 3) := by decide +kernel
theorem dX0_change_53 : decode cX0_change 53 = .ok (.aload_n 0, 1) := by decide +kernel
theorem dX0_change_54 : decode cX0_change 54 = .ok (.getfield 37, 3) := by decide +kernel
theorem dX0_change_57 : decode cX0_change 57 = .ok (.ireturn, 1) := by decide +kernel
theorem dX0_change_58 : decode cX0_change 58 = .ok (.aload_n 0, 1) := by decide +kernel
theorem dX0_change_59 : decode cX0_change 59 = .ok (.iload_n 1, 1) := by decide +kernel
theorem dX0_change_60 : decode cX0_change 60 = .ok (.iload_n 2, 1) := by decide +kernel
theorem dX0_change_61 : decode cX0_change 61 = .ok (.iload_n 1, 1) := by decide +kernel
theorem dX0_change_62 : decode cX0_change 62 = .ok (.aload_n 0, 1) := by decide +kernel
theorem dX0_change_63 : decode cX0_change 63 = .ok (.getfield 15, 3) := by decide +kernel
theorem dX0_change_66 : decode cX0_change 66 = .ok (.iload_n 1, 1) := by decide +kernel
theorem dX0_change_67 : decode cX0_change 67 = .ok (.aaload, 1) := by decide +kernel
theorem dX0_change_68 : decode cX0_change 68 = .ok (.iload_n 2, 1) := by decide +kernel
theorem dX0_change_69 : decode cX0_change 69 = .ok (.iaload, 1) := by decide +kernel
theorem dX0_change_70 : decode cX0_change 70 = .ok (.iload_n 3, 1) := by decide +kernel
theorem dX0_change_71 : decode cX0_change 71 = .ok (.iload 4, 2) := by decide +kernel
theorem dX0_change_73 : decode cX0_change 73 = .ok (.invokestatic 72, 3) := by decide +kernel
theorem dX0_change_76 : decode cX0_change 76 = .ok (.invokevirtual 68, 3) := by decide +kernel
theorem dX0_change_79 : decode cX0_change 79 = .ok (.aload_n 0, 1) := by decide +kernel
theorem dX0_change_80 : decode cX0_change 80 = .ok (.getfield 15, 3) := by decide +kernel
theorem dX0_change_83 : decode cX0_change 83 = .ok (.iload_n 1, 1) := by decide +kernel
theorem dX0_change_84 : decode cX0_change 84 = .ok (.aaload, 1) := by decide +kernel
theorem dX0_change_85 : decode cX0_change 85 = .ok (.iload_n 2, 1) := by decide +kernel
theorem dX0_change_86 : decode cX0_change 86 = .ok (.iaload, 1) := by decide +kernel
theorem dX0_change_87 : decode cX0_change 87 = .ok (.ireturn, 1) := by decide +kernel
set_option maxRecDepth 20000 in
theorem ggX0_tally_X0_isBook : GoodIn wsX0_tally wsX0_isBook := goodIn_r _ [8] (by decide +kernel) (by decide +kernel)
set_option maxRecDepth 20000 in
theorem gX0_tally_X0_isBook : GoodIn wsX0_tally (va_wsS RX0 53 yX0_isBook wsX0_isBook) := goodIn_app (goodIn_of _ (by decide +kernel)) ggX0_tally_X0_isBook
set_option maxRecDepth 20000 in
theorem ggX0_tally_X0_endsAtBook : GoodIn wsX0_tally wsX0_endsAtBook := goodIn_r _ [12, 3, 13, 14, 15, 16, 7, 17, 18, 2, 19, 20, 21, 22, 23, 24, 25, 26, 27, 28] (by decide +kernel) (by decide +kernel)
set_option maxRecDepth 20000 in
theorem gX0_tally_X0_endsAtBook : GoodIn wsX0_tally (wsV RX0 58 RX0 yX0_endsAtBook wsX0_endsAtBook) := goodIn_app (goodIn_of _ (by decide +kernel)) ggX0_tally_X0_endsAtBook
theorem dX0_tally_0 : decode cX0_tally 0 = .ok (.iload_n 1, 1) := by decide +kernel
theorem dX0_tally_1 : decode cX0_tally 1 = .ok (.invokestatic 53, 3) := by decide +kernel
theorem dX0_tally_4 : decode cX0_tally 4 = .ok (.ifCond .ne 6, 3) := by decide +kernel
theorem dX0_tally_7 : decode cX0_tally 7 = .ok (.ldc 57, 2) := by decide +kernel
theorem dX0_tally_9 : decode cX0_tally 9 = .ok (.ireturn, 1) := by decide +kernel
theorem dX0_tally_10 : decode cX0_tally 10 = .ok (.aload_n 0, 1) := by decide +kernel
theorem dX0_tally_11 : decode cX0_tally 11 = .ok (.iload_n 1, 1) := by decide +kernel
theorem dX0_tally_12 : decode cX0_tally 12 = .ok (.invokevirtual 58, 3) := by decide +kernel
theorem dX0_tally_15 : decode cX0_tally 15 = .ok (.ifCond .eq 8, 3) := by decide +kernel
theorem dX0_tally_18 : decode cX0_tally 18 = .ok (.aload_n 0, 1) := by decide +kernel
theorem dX0_tally_19 : decode cX0_tally 19 = .ok (.getfield 37, 3) := by decide +kernel
theorem dX0_tally_22 : decode cX0_tally 22 = .ok (.ireturn, 1) := by decide +kernel
theorem dX0_tally_23 : decode cX0_tally 23 = .ok (.iconst 0, 1) := by decide +kernel
theorem dX0_tally_24 : decode cX0_tally 24 = .ok (.istore_n 2, 1) := by decide +kernel
theorem dX0_tally_25 : decode cX0_tally 25 = .ok (.iconst 0, 1) := by decide +kernel
theorem dX0_tally_26 : decode cX0_tally 26 = .ok (.istore_n 3, 1) := by decide +kernel
theorem dX0_tally_27 : decode cX0_tally 27 = .ok (.iload_n 3, 1) := by decide +kernel
theorem dX0_tally_28 : decode cX0_tally 28 = .ok (.aload_n 0, 1) := by decide +kernel
theorem dX0_tally_29 : decode cX0_tally 29 = .ok (.getfield 9, 3) := by decide +kernel
theorem dX0_tally_32 : decode cX0_tally 32 = .ok (.iload_n 1, 1) := by decide +kernel
theorem dX0_tally_33 : decode cX0_tally 33 = .ok (.iaload, 1) := by decide +kernel
theorem dX0_tally_34 : decode cX0_tally 34 = .ok (.if_icmp .ge 20, 3) := by decide +kernel
theorem dX0_tally_37 : decode cX0_tally 37 = .ok (.iload_n 2, 1) := by decide +kernel
theorem dX0_tally_38 : decode cX0_tally 38 = .ok (.aload_n 0, 1) := by decide +kernel
theorem dX0_tally_39 : decode cX0_tally 39 = .ok (.getfield 15, 3) := by decide +kernel
theorem dX0_tally_42 : decode cX0_tally 42 = .ok (.iload_n 1, 1) := by decide +kernel
theorem dX0_tally_43 : decode cX0_tally 43 = .ok (.aaload, 1) := by decide +kernel
theorem dX0_tally_44 : decode cX0_tally 44 = .ok (.iload_n 3, 1) := by decide +kernel
theorem dX0_tally_45 : decode cX0_tally 45 = .ok (.iaload, 1) := by decide +kernel
theorem dX0_tally_46 : decode cX0_tally 46 = .ok (.iadd, 1) := by decide +kernel
theorem dX0_tally_47 : decode cX0_tally 47 = .ok (.istore_n 2, 1) := by decide +kernel
theorem dX0_tally_48 : decode cX0_tally 48 = .ok (.iinc 3 1, 3) := by decide +kernel
theorem dX0_tally_51 : decode cX0_tally 51 = .ok (.goto (-24), 3) := by decide +kernel
theorem dX0_tally_54 : decode cX0_tally 54 = .ok (.iload_n 2, 1) := by decide +kernel
theorem dX0_tally_55 : decode cX0_tally 55 = .ok (.ireturn, 1) := by decide +kernel
set_option maxRecDepth 20000 in
theorem ggX0_copy_X0_isBook : GoodIn wsX0_copy wsX0_isBook := goodIn_r _ [8] (by decide +kernel) (by decide +kernel)
set_option maxRecDepth 20000 in
theorem gX0_copy_X0_isBook : GoodIn wsX0_copy (va_wsS RX0 53 yX0_isBook wsX0_isBook) := goodIn_app (goodIn_of _ (by decide +kernel)) ggX0_copy_X0_isBook
set_option maxRecDepth 20000 in
theorem ggX0_copy_X0_endsAtBook : GoodIn wsX0_copy wsX0_endsAtBook := goodIn_r _ [12, 3, 13, 14, 15, 16, 7, 17, 18, 2, 47, 48, 49, 50, 51, 52, 53, 54, 55, 56] (by decide +kernel) (by decide +kernel)
set_option maxRecDepth 20000 in
theorem gX0_copy_X0_endsAtBook : GoodIn wsX0_copy (wsV RX0 58 RX0 yX0_endsAtBook wsX0_endsAtBook) := goodIn_app (goodIn_of _ (by decide +kernel)) ggX0_copy_X0_endsAtBook
set_option maxRecDepth 20000 in
theorem ggX0_copy_X0_endsAtLine : GoodIn wsX0_copy wsX0_endsAtLine := goodIn_r _ [22, 3, 23, 9, 10, 11, 7, 12, 13, 14, 15, 16, 17, 18, 2, 47, 48, 49, 50, 51, 52, 53, 54, 55, 56] (by decide +kernel) (by decide +kernel)
set_option maxRecDepth 20000 in
theorem gX0_copy_X0_endsAtLine : GoodIn wsX0_copy (wsV RX0 61 RX0 yX0_endsAtLine wsX0_endsAtLine) := goodIn_app (goodIn_of _ (by decide +kernel)) ggX0_copy_X0_endsAtLine
set_option maxRecDepth 20000 in
theorem ggX0_copy_X0_told : GoodIn wsX0_copy wsX0_told := goodIn_r _ [26, 27, 28, 7, 29, 30, 31, 32, 33, 34, 35, 36] (by decide +kernel) (by decide +kernel)
set_option maxRecDepth 20000 in
theorem gX0_copy_X0_told : GoodIn wsX0_copy (va_wsS RX0 76 yX0_told wsX0_told) := goodIn_app (goodIn_of _ (by decide +kernel)) ggX0_copy_X0_told
set_option maxRecDepth 20000 in
theorem ggX0_copy_X0_put : GoodIn wsX0_copy wsX0_put := goodIn_r _ [40, 4, 41, 42, 7, 43, 44, 45, 46, 27, 28, 29, 30, 31, 32, 33, 34, 35, 36, 47, 48, 49, 50, 51, 52, 53, 54, 55, 56] (by decide +kernel) (by decide +kernel)
set_option maxRecDepth 20000 in
theorem gX0_copy_X0_put : GoodIn wsX0_copy (wsV RX0 68 RX0 yX0_put wsX0_put) := goodIn_app (goodIn_of _ (by decide +kernel)) ggX0_copy_X0_put
theorem dX0_copy_0 : decode cX0_copy 0 = .ok (.iload_n 1, 1) := by decide +kernel
theorem dX0_copy_1 : decode cX0_copy 1 = .ok (.invokestatic 53, 3) := by decide +kernel
theorem dX0_copy_4 : decode cX0_copy 4 = .ok (.ifCond .eq 15, 3) := by decide +kernel
theorem dX0_copy_7 : decode cX0_copy 7 = .ok (.iload_n 2, 1) := by decide +kernel
theorem dX0_copy_8 : decode cX0_copy 8 = .ok (.invokestatic 53, 3) := by decide +kernel
theorem dX0_copy_11 : decode cX0_copy 11 = .ok (.ifCond .eq 8, 3) := by decide +kernel
theorem dX0_copy_14 : decode cX0_copy 14 = .ok (.iload_n 1, 1) := by decide +kernel
theorem dX0_copy_15 : decode cX0_copy 15 = .ok (.iload_n 2, 1) := by decide +kernel
theorem dX0_copy_16 : decode cX0_copy 16 = .ok (.if_icmp .ne 6, 3) := by decide +kernel
theorem dX0_copy_19 : decode cX0_copy 19 = .ok (.ldc 57, 2) := by decide +kernel
theorem dX0_copy_21 : decode cX0_copy 21 = .ok (.ireturn, 1) := by decide +kernel
theorem dX0_copy_22 : decode cX0_copy 22 = .ok (.aload_n 0, 1) := by decide +kernel
theorem dX0_copy_23 : decode cX0_copy 23 = .ok (.iload_n 1, 1) := by decide +kernel
theorem dX0_copy_24 : decode cX0_copy 24 = .ok (.invokevirtual 58, 3) := by decide +kernel
theorem dX0_copy_27 : decode cX0_copy 27 = .ok (.ifCond .eq 8, 3) := by decide +kernel
theorem dX0_copy_30 : decode cX0_copy 30 = .ok (.aload_n 0, 1) := by decide +kernel
theorem dX0_copy_31 : decode cX0_copy 31 = .ok (.getfield 37, 3) := by decide +kernel
theorem dX0_copy_34 : decode cX0_copy 34 = .ok (.ireturn, 1) := by decide +kernel
theorem dX0_copy_35 : decode cX0_copy 35 = .ok (.iconst 0, 1) := by decide +kernel
theorem dX0_copy_36 : decode cX0_copy 36 = .ok (.istore_n 3, 1) := by decide +kernel
theorem dX0_copy_37 : decode cX0_copy 37 = .ok (.iload_n 3, 1) := by decide +kernel
theorem dX0_copy_38 : decode cX0_copy 38 = .ok (.aload_n 0, 1) := by decide +kernel
theorem dX0_copy_39 : decode cX0_copy 39 = .ok (.getfield 9, 3) := by decide +kernel
theorem dX0_copy_42 : decode cX0_copy 42 = .ok (.iload_n 1, 1) := by decide +kernel
theorem dX0_copy_43 : decode cX0_copy 43 = .ok (.iaload, 1) := by decide +kernel
theorem dX0_copy_44 : decode cX0_copy 44 = .ok (.if_icmp .ge 41, 3) := by decide +kernel
theorem dX0_copy_47 : decode cX0_copy 47 = .ok (.aload_n 0, 1) := by decide +kernel
theorem dX0_copy_48 : decode cX0_copy 48 = .ok (.iload_n 2, 1) := by decide +kernel
theorem dX0_copy_49 : decode cX0_copy 49 = .ok (.iload_n 3, 1) := by decide +kernel
theorem dX0_copy_50 : decode cX0_copy 50 = .ok (.invokevirtual 61, 3) := by decide +kernel
theorem dX0_copy_53 : decode cX0_copy 53 = .ok (.ifCond .eq 8, 3) := by decide +kernel
theorem dX0_copy_56 : decode cX0_copy 56 = .ok (.aload_n 0, 1) := by decide +kernel
theorem dX0_copy_57 : decode cX0_copy 57 = .ok (.getfield 37, 3) := by decide +kernel
theorem dX0_copy_60 : decode cX0_copy 60 = .ok (.ireturn, 1) := by decide +kernel
theorem dX0_copy_61 : decode cX0_copy 61 = .ok (.aload_n 0, 1) := by decide +kernel
theorem dX0_copy_62 : decode cX0_copy 62 = .ok (.iload_n 2, 1) := by decide +kernel
theorem dX0_copy_63 : decode cX0_copy 63 = .ok (.iload_n 3, 1) := by decide +kernel
theorem dX0_copy_64 : decode cX0_copy 64 = .ok (.iload_n 2, 1) := by decide +kernel
theorem dX0_copy_65 : decode cX0_copy 65 = .ok (.aload_n 0, 1) := by decide +kernel
theorem dX0_copy_66 : decode cX0_copy 66 = .ok (.getfield 15, 3) := by decide +kernel
theorem dX0_copy_69 : decode cX0_copy 69 = .ok (.iload_n 1, 1) := by decide +kernel
theorem dX0_copy_70 : decode cX0_copy 70 = .ok (.aaload, 1) := by decide +kernel
theorem dX0_copy_71 : decode cX0_copy 71 = .ok (.iload_n 3, 1) := by decide +kernel
theorem dX0_copy_72 : decode cX0_copy 72 = .ok (.iaload, 1) := by decide +kernel
theorem dX0_copy_73 : decode cX0_copy 73 = .ok (.invokestatic 76, 3) := by decide +kernel
theorem dX0_copy_76 : decode cX0_copy 76 = .ok (.invokevirtual 68, 3) := by decide +kernel
theorem dX0_copy_79 : decode cX0_copy 79 = .ok (.iinc 3 1, 3) := by decide +kernel
theorem dX0_copy_82 : decode cX0_copy 82 = .ok (.goto (-45), 3) := by decide +kernel
theorem dX0_copy_85 : decode cX0_copy 85 = .ok (.aload_n 0, 1) := by decide +kernel
theorem dX0_copy_86 : decode cX0_copy 86 = .ok (.getfield 9, 3) := by decide +kernel
theorem dX0_copy_89 : decode cX0_copy 89 = .ok (.iload_n 1, 1) := by decide +kernel
theorem dX0_copy_90 : decode cX0_copy 90 = .ok (.iaload, 1) := by decide +kernel
theorem dX0_copy_91 : decode cX0_copy 91 = .ok (.ireturn, 1) := by decide +kernel
set_option maxRecDepth 20000 in
theorem ggX0_sluice_X0_isChamber : GoodIn wsX0_sluice wsX0_isChamber := goodIn_r _ [8, 9, 50, 51, 52, 53, 54, 55, 56, 57, 58, 59] (by decide +kernel) (by decide +kernel)
set_option maxRecDepth 20000 in
theorem gX0_sluice_X0_isChamber : GoodIn wsX0_sluice (wsV RX0 80 RX0 yX0_isChamber wsX0_isChamber) := goodIn_app (goodIn_of _ (by decide +kernel)) ggX0_sluice_X0_isChamber
set_option maxRecDepth 20000 in
theorem ggX0_sluice_X0_endsAtLine : GoodIn wsX0_sluice wsX0_endsAtLine := goodIn_r _ [13, 14, 15, 16, 17, 18, 7, 19, 20, 21, 22, 23, 24, 25, 2, 50, 51, 52, 53, 54, 55, 56, 57, 58, 59] (by decide +kernel) (by decide +kernel)
set_option maxRecDepth 20000 in
theorem gX0_sluice_X0_endsAtLine : GoodIn wsX0_sluice (wsV RX0 61 RX0 yX0_endsAtLine wsX0_endsAtLine) := goodIn_app (goodIn_of _ (by decide +kernel)) ggX0_sluice_X0_endsAtLine
set_option maxRecDepth 20000 in
theorem ggX0_sluice_X0_put : GoodIn wsX0_sluice wsX0_put := goodIn_r _ [29, 3, 30, 31, 7, 32, 33, 34, 35, 36, 37, 38, 39, 40, 41, 42, 43, 44, 45, 50, 51, 52, 53, 54, 55, 56, 57, 58, 59] (by decide +kernel) (by decide +kernel)
set_option maxRecDepth 20000 in
theorem gX0_sluice_X0_put : GoodIn wsX0_sluice (wsV RX0 68 RX0 yX0_put wsX0_put) := goodIn_app (goodIn_of _ (by decide +kernel)) ggX0_sluice_X0_put
set_option maxRecDepth 20000 in
theorem ggX0_sluice_X0_isLast : GoodIn wsX0_sluice wsX0_isLast := goodIn_r _ [49, 9, 50, 51, 52, 53, 54, 55, 56, 57, 58, 59] (by decide +kernel) (by decide +kernel)
set_option maxRecDepth 20000 in
theorem gX0_sluice_X0_isLast : GoodIn wsX0_sluice (wsV RX0 83 RX0 yX0_isLast wsX0_isLast) := goodIn_app (goodIn_of _ (by decide +kernel)) ggX0_sluice_X0_isLast
theorem dX0_sluice_0 : decode cX0_sluice 0 = .ok (.aload_n 0, 1) := by decide +kernel
theorem dX0_sluice_1 : decode cX0_sluice 1 = .ok (.iload_n 1, 1) := by decide +kernel
theorem dX0_sluice_2 : decode cX0_sluice 2 = .ok (.invokevirtual 80, 3) := by decide +kernel
theorem dX0_sluice_5 : decode cX0_sluice 5 = .ok (.ifCond .ne 6, 3) := by decide +kernel
theorem dX0_sluice_8 : decode cX0_sluice 8 = .ok (.ldc 57, 2) := by decide +kernel
theorem dX0_sluice_10 : decode cX0_sluice 10 = .ok (.ireturn, 1) := by decide +kernel
theorem dX0_sluice_11 : decode cX0_sluice 11 = .ok (.aload_n 0, 1) := by decide +kernel
theorem dX0_sluice_12 : decode cX0_sluice 12 = .ok (.iconst 1, 1) := by decide +kernel
theorem dX0_sluice_13 : decode cX0_sluice 13 = .ok (.iload_n 1, 1) := by decide +kernel
theorem dX0_sluice_14 : decode cX0_sluice 14 = .ok (.invokevirtual 61, 3) := by decide +kernel
theorem dX0_sluice_17 : decode cX0_sluice 17 = .ok (.ifCond .eq 8, 3) := by decide +kernel
theorem dX0_sluice_20 : decode cX0_sluice 20 = .ok (.aload_n 0, 1) := by decide +kernel
theorem dX0_sluice_21 : decode cX0_sluice 21 = .ok (.getfield 37, 3) := by decide +kernel
theorem dX0_sluice_24 : decode cX0_sluice 24 = .ok (.ireturn, 1) := by decide +kernel
theorem dX0_sluice_25 : decode cX0_sluice 25 = .ok (.aload_n 0, 1) := by decide +kernel
theorem dX0_sluice_26 : decode cX0_sluice 26 = .ok (.iconst 1, 1) := by decide +kernel
theorem dX0_sluice_27 : decode cX0_sluice 27 = .ok (.iload_n 1, 1) := by decide +kernel
theorem dX0_sluice_28 : decode cX0_sluice 28 = .ok (.aload_n 0, 1) := by decide +kernel
theorem dX0_sluice_29 : decode cX0_sluice 29 = .ok (.getfield 15, 3) := by decide +kernel
theorem dX0_sluice_32 : decode cX0_sluice 32 = .ok (.iconst 1, 1) := by decide +kernel
theorem dX0_sluice_33 : decode cX0_sluice 33 = .ok (.aaload, 1) := by decide +kernel
theorem dX0_sluice_34 : decode cX0_sluice 34 = .ok (.iload_n 1, 1) := by decide +kernel
theorem dX0_sluice_35 : decode cX0_sluice 35 = .ok (.iaload, 1) := by decide +kernel
theorem dX0_sluice_36 : decode cX0_sluice 36 = .ok (.iload_n 2, 1) := by decide +kernel
theorem dX0_sluice_37 : decode cX0_sluice 37 = .ok (.isub, 1) := by decide +kernel
theorem dX0_sluice_38 : decode cX0_sluice 38 = .ok (.invokevirtual 68, 3) := by decide +kernel
theorem dX0_sluice_41 : decode cX0_sluice 41 = .ok (.aload_n 0, 1) := by decide +kernel
theorem dX0_sluice_42 : decode cX0_sluice 42 = .ok (.iload_n 1, 1) := by decide +kernel
theorem dX0_sluice_43 : decode cX0_sluice 43 = .ok (.invokevirtual 83, 3) := by decide +kernel
theorem dX0_sluice_46 : decode cX0_sluice 46 = .ok (.ifCond .ne 39, 3) := by decide +kernel
theorem dX0_sluice_49 : decode cX0_sluice 49 = .ok (.aload_n 0, 1) := by decide +kernel
theorem dX0_sluice_50 : decode cX0_sluice 50 = .ok (.iconst 1, 1) := by decide +kernel
theorem dX0_sluice_51 : decode cX0_sluice 51 = .ok (.iload_n 1, 1) := by decide +kernel
theorem dX0_sluice_52 : decode cX0_sluice 52 = .ok (.iconst 1, 1) := by decide +kernel
theorem dX0_sluice_53 : decode cX0_sluice 53 = .ok (.iadd, 1) := by decide +kernel
theorem dX0_sluice_54 : decode cX0_sluice 54 = .ok (.invokevirtual 61, 3) := by decide +kernel
theorem dX0_sluice_57 : decode cX0_sluice 57 = .ok (.ifCond .eq 8, 3) := by decide +kernel
theorem dX0_sluice_60 : decode cX0_sluice 60 = .ok (.aload_n 0, 1) := by decide +kernel
theorem dX0_sluice_61 : decode cX0_sluice 61 = .ok (.getfield 37, 3) := by decide +kernel
theorem dX0_sluice_64 : decode cX0_sluice 64 = .ok (.ireturn, 1) := by decide +kernel
theorem dX0_sluice_65 : decode cX0_sluice 65 = .ok (.aload_n 0, 1) := by decide +kernel
theorem dX0_sluice_66 : decode cX0_sluice 66 = .ok (.iconst 1, 1) := by decide +kernel
theorem dX0_sluice_67 : decode cX0_sluice 67 = .ok (.iload_n 1, 1) := by decide +kernel
theorem dX0_sluice_68 : decode cX0_sluice 68 = .ok (.iconst 1, 1) := by decide +kernel
theorem dX0_sluice_69 : decode cX0_sluice 69 = .ok (.iadd, 1) := by decide +kernel
theorem dX0_sluice_70 : decode cX0_sluice 70 = .ok (.aload_n 0, 1) := by decide +kernel
theorem dX0_sluice_71 : decode cX0_sluice 71 = .ok (.getfield 15, 3) := by decide +kernel
theorem dX0_sluice_74 : decode cX0_sluice 74 = .ok (.iconst 1, 1) := by decide +kernel
theorem dX0_sluice_75 : decode cX0_sluice 75 = .ok (.aaload, 1) := by decide +kernel
theorem dX0_sluice_76 : decode cX0_sluice 76 = .ok (.iload_n 1, 1) := by decide +kernel
theorem dX0_sluice_77 : decode cX0_sluice 77 = .ok (.iconst 1, 1) := by decide +kernel
theorem dX0_sluice_78 : decode cX0_sluice 78 = .ok (.iadd, 1) := by decide +kernel
theorem dX0_sluice_79 : decode cX0_sluice 79 = .ok (.iaload, 1) := by decide +kernel
theorem dX0_sluice_80 : decode cX0_sluice 80 = .ok (.iload_n 2, 1) := by decide +kernel
theorem dX0_sluice_81 : decode cX0_sluice 81 = .ok (.iadd, 1) := by decide +kernel
theorem dX0_sluice_82 : decode cX0_sluice 82 = .ok (.invokevirtual 68, 3) := by decide +kernel
theorem dX0_sluice_85 : decode cX0_sluice 85 = .ok (.aload_n 0, 1) := by decide +kernel
theorem dX0_sluice_86 : decode cX0_sluice 86 = .ok (.getfield 15, 3) := by decide +kernel
theorem dX0_sluice_89 : decode cX0_sluice 89 = .ok (.iconst 1, 1) := by decide +kernel
theorem dX0_sluice_90 : decode cX0_sluice 90 = .ok (.aaload, 1) := by decide +kernel
theorem dX0_sluice_91 : decode cX0_sluice 91 = .ok (.iload_n 1, 1) := by decide +kernel
theorem dX0_sluice_92 : decode cX0_sluice 92 = .ok (.iaload, 1) := by decide +kernel
theorem dX0_sluice_93 : decode cX0_sluice 93 = .ok (.ireturn, 1) := by decide +kernel
set_option maxRecDepth 20000 in
theorem ggX0_open_X0_isChamber : GoodIn wsX0_open wsX0_isChamber := goodIn_r _ [8, 9, 50, 51, 52, 53, 54, 55, 56, 57, 58, 59] (by decide +kernel) (by decide +kernel)
set_option maxRecDepth 20000 in
theorem gX0_open_X0_isChamber : GoodIn wsX0_open (wsV RX0 80 RX0 yX0_isChamber wsX0_isChamber) := goodIn_app (goodIn_of _ (by decide +kernel)) ggX0_open_X0_isChamber
set_option maxRecDepth 20000 in
theorem ggX0_open_X0_endsAtLine : GoodIn wsX0_open wsX0_endsAtLine := goodIn_r _ [13, 14, 15, 16, 17, 18, 7, 19, 20, 21, 22, 23, 24, 25, 2, 50, 51, 52, 53, 54, 55, 56, 57, 58, 59] (by decide +kernel) (by decide +kernel)
set_option maxRecDepth 20000 in
theorem gX0_open_X0_endsAtLine : GoodIn wsX0_open (wsV RX0 61 RX0 yX0_endsAtLine wsX0_endsAtLine) := goodIn_app (goodIn_of _ (by decide +kernel)) ggX0_open_X0_endsAtLine
set_option maxRecDepth 20000 in
theorem ggX0_open_X0_isLast : GoodIn wsX0_open wsX0_isLast := goodIn_r _ [29, 9, 50, 51, 52, 53, 54, 55, 56, 57, 58, 59] (by decide +kernel) (by decide +kernel)
set_option maxRecDepth 20000 in
theorem gX0_open_X0_isLast : GoodIn wsX0_open (wsV RX0 83 RX0 yX0_isLast wsX0_isLast) := goodIn_app (goodIn_of _ (by decide +kernel)) ggX0_open_X0_isLast
set_option maxRecDepth 20000 in
theorem ggX0_open_X0_put : GoodIn wsX0_open wsX0_put := goodIn_r _ [33, 3, 34, 35, 7, 36, 37, 38, 39, 40, 41, 42, 43, 44, 45, 46, 47, 48, 49, 50, 51, 52, 53, 54, 55, 56, 57, 58, 59] (by decide +kernel) (by decide +kernel)
set_option maxRecDepth 20000 in
theorem gX0_open_X0_put : GoodIn wsX0_open (wsV RX0 68 RX0 yX0_put wsX0_put) := goodIn_app (goodIn_of _ (by decide +kernel)) ggX0_open_X0_put
theorem dX0_open_0 : decode cX0_open 0 = .ok (.aload_n 0, 1) := by decide +kernel
theorem dX0_open_1 : decode cX0_open 1 = .ok (.iload_n 1, 1) := by decide +kernel
theorem dX0_open_2 : decode cX0_open 2 = .ok (.invokevirtual 80, 3) := by decide +kernel
theorem dX0_open_5 : decode cX0_open 5 = .ok (.ifCond .ne 6, 3) := by decide +kernel
theorem dX0_open_8 : decode cX0_open 8 = .ok (.ldc 57, 2) := by decide +kernel
theorem dX0_open_10 : decode cX0_open 10 = .ok (.ireturn, 1) := by decide +kernel
theorem dX0_open_11 : decode cX0_open 11 = .ok (.aload_n 0, 1) := by decide +kernel
theorem dX0_open_12 : decode cX0_open 12 = .ok (.iconst 1, 1) := by decide +kernel
theorem dX0_open_13 : decode cX0_open 13 = .ok (.iload_n 1, 1) := by decide +kernel
theorem dX0_open_14 : decode cX0_open 14 = .ok (.invokevirtual 61, 3) := by decide +kernel
theorem dX0_open_17 : decode cX0_open 17 = .ok (.ifCond .eq 8, 3) := by decide +kernel
theorem dX0_open_20 : decode cX0_open 20 = .ok (.aload_n 0, 1) := by decide +kernel
theorem dX0_open_21 : decode cX0_open 21 = .ok (.getfield 37, 3) := by decide +kernel
theorem dX0_open_24 : decode cX0_open 24 = .ok (.ireturn, 1) := by decide +kernel
theorem dX0_open_25 : decode cX0_open 25 = .ok (.iconst 0, 1) := by decide +kernel
theorem dX0_open_26 : decode cX0_open 26 = .ok (.istore_n 2, 1) := by decide +kernel
theorem dX0_open_27 : decode cX0_open 27 = .ok (.aload_n 0, 1) := by decide +kernel
theorem dX0_open_28 : decode cX0_open 28 = .ok (.iload_n 1, 1) := by decide +kernel
theorem dX0_open_29 : decode cX0_open 29 = .ok (.invokevirtual 83, 3) := by decide +kernel
theorem dX0_open_32 : decode cX0_open 32 = .ok (.ifCond .ne 30, 3) := by decide +kernel
theorem dX0_open_35 : decode cX0_open 35 = .ok (.aload_n 0, 1) := by decide +kernel
theorem dX0_open_36 : decode cX0_open 36 = .ok (.iconst 1, 1) := by decide +kernel
theorem dX0_open_37 : decode cX0_open 37 = .ok (.iload_n 1, 1) := by decide +kernel
theorem dX0_open_38 : decode cX0_open 38 = .ok (.iconst 1, 1) := by decide +kernel
theorem dX0_open_39 : decode cX0_open 39 = .ok (.iadd, 1) := by decide +kernel
theorem dX0_open_40 : decode cX0_open 40 = .ok (.invokevirtual 61, 3) := by decide +kernel
theorem dX0_open_43 : decode cX0_open 43 = .ok (.ifCond .eq 8, 3) := by decide +kernel
theorem dX0_open_46 : decode cX0_open 46 = .ok (.aload_n 0, 1) := by decide +kernel
theorem dX0_open_47 : decode cX0_open 47 = .ok (.getfield 37, 3) := by decide +kernel
theorem dX0_open_50 : decode cX0_open 50 = .ok (.ireturn, 1) := by decide +kernel
theorem dX0_open_51 : decode cX0_open 51 = .ok (.aload_n 0, 1) := by decide +kernel
theorem dX0_open_52 : decode cX0_open 52 = .ok (.getfield 15, 3) := by decide +kernel
theorem dX0_open_55 : decode cX0_open 55 = .ok (.iconst 1, 1) := by decide +kernel
theorem dX0_open_56 : decode cX0_open 56 = .ok (.aaload, 1) := by decide +kernel
theorem dX0_open_57 : decode cX0_open 57 = .ok (.iload_n 1, 1) := by decide +kernel
theorem dX0_open_58 : decode cX0_open 58 = .ok (.iconst 1, 1) := by decide +kernel
theorem dX0_open_59 : decode cX0_open 59 = .ok (.iadd, 1) := by decide +kernel
theorem dX0_open_60 : decode cX0_open 60 = .ok (.iaload, 1) := by decide +kernel
theorem dX0_open_61 : decode cX0_open 61 = .ok (.istore_n 2, 1) := by decide +kernel
theorem dX0_open_62 : decode cX0_open 62 = .ok (.aload_n 0, 1) := by decide +kernel
theorem dX0_open_63 : decode cX0_open 63 = .ok (.getfield 15, 3) := by decide +kernel
theorem dX0_open_66 : decode cX0_open 66 = .ok (.iconst 1, 1) := by decide +kernel
theorem dX0_open_67 : decode cX0_open 67 = .ok (.aaload, 1) := by decide +kernel
theorem dX0_open_68 : decode cX0_open 68 = .ok (.iload_n 1, 1) := by decide +kernel
theorem dX0_open_69 : decode cX0_open 69 = .ok (.iaload, 1) := by decide +kernel
theorem dX0_open_70 : decode cX0_open 70 = .ok (.iload_n 2, 1) := by decide +kernel
theorem dX0_open_71 : decode cX0_open 71 = .ok (.if_icmp .eq 6, 3) := by decide +kernel
theorem dX0_open_74 : decode cX0_open 74 = .ok (.bipush (-2), 2) := by decide +kernel
theorem dX0_open_76 : decode cX0_open 76 = .ok (.ireturn, 1) := by decide +kernel
theorem dX0_open_77 : decode cX0_open 77 = .ok (.aload_n 0, 1) := by decide +kernel
theorem dX0_open_78 : decode cX0_open 78 = .ok (.iconst 3, 1) := by decide +kernel
theorem dX0_open_79 : decode cX0_open 79 = .ok (.iload_n 1, 1) := by decide +kernel
theorem dX0_open_80 : decode cX0_open 80 = .ok (.invokevirtual 61, 3) := by decide +kernel
theorem dX0_open_83 : decode cX0_open 83 = .ok (.ifCond .eq 8, 3) := by decide +kernel
theorem dX0_open_86 : decode cX0_open 86 = .ok (.aload_n 0, 1) := by decide +kernel
theorem dX0_open_87 : decode cX0_open 87 = .ok (.getfield 37, 3) := by decide +kernel
theorem dX0_open_90 : decode cX0_open 90 = .ok (.ireturn, 1) := by decide +kernel
theorem dX0_open_91 : decode cX0_open 91 = .ok (.aload_n 0, 1) := by decide +kernel
theorem dX0_open_92 : decode cX0_open 92 = .ok (.iconst 3, 1) := by decide +kernel
theorem dX0_open_93 : decode cX0_open 93 = .ok (.iload_n 1, 1) := by decide +kernel
theorem dX0_open_94 : decode cX0_open 94 = .ok (.iconst 1, 1) := by decide +kernel
theorem dX0_open_95 : decode cX0_open 95 = .ok (.invokevirtual 68, 3) := by decide +kernel
theorem dX0_open_98 : decode cX0_open 98 = .ok (.iconst 0, 1) := by decide +kernel
theorem dX0_open_99 : decode cX0_open 99 = .ok (.ireturn, 1) := by decide +kernel
set_option maxRecDepth 20000 in
theorem ggX0_shut_X0_isChamber : GoodIn wsX0_shut wsX0_isChamber := goodIn_r _ [8, 9, 46, 47, 48, 49, 50, 51, 52, 53, 54, 55] (by decide +kernel) (by decide +kernel)
set_option maxRecDepth 20000 in
theorem gX0_shut_X0_isChamber : GoodIn wsX0_shut (wsV RX0 80 RX0 yX0_isChamber wsX0_isChamber) := goodIn_app (goodIn_of _ (by decide +kernel)) ggX0_shut_X0_isChamber
set_option maxRecDepth 20000 in
theorem ggX0_shut_X0_endsAtLine : GoodIn wsX0_shut wsX0_endsAtLine := goodIn_r _ [13, 14, 15, 16, 17, 18, 7, 19, 20, 21, 22, 23, 24, 25, 2, 46, 47, 48, 49, 50, 51, 52, 53, 54, 55] (by decide +kernel) (by decide +kernel)
set_option maxRecDepth 20000 in
theorem gX0_shut_X0_endsAtLine : GoodIn wsX0_shut (wsV RX0 61 RX0 yX0_endsAtLine wsX0_endsAtLine) := goodIn_app (goodIn_of _ (by decide +kernel)) ggX0_shut_X0_endsAtLine
set_option maxRecDepth 20000 in
theorem ggX0_shut_X0_put : GoodIn wsX0_shut wsX0_put := goodIn_r _ [29, 3, 30, 31, 7, 32, 33, 34, 35, 36, 37, 38, 39, 40, 41, 42, 43, 44, 45, 46, 47, 48, 49, 50, 51, 52, 53, 54, 55] (by decide +kernel) (by decide +kernel)
set_option maxRecDepth 20000 in
theorem gX0_shut_X0_put : GoodIn wsX0_shut (wsV RX0 68 RX0 yX0_put wsX0_put) := goodIn_app (goodIn_of _ (by decide +kernel)) ggX0_shut_X0_put
theorem dX0_shut_0 : decode cX0_shut 0 = .ok (.aload_n 0, 1) := by decide +kernel
theorem dX0_shut_1 : decode cX0_shut 1 = .ok (.iload_n 1, 1) := by decide +kernel
theorem dX0_shut_2 : decode cX0_shut 2 = .ok (.invokevirtual 80, 3) := by decide +kernel
theorem dX0_shut_5 : decode cX0_shut 5 = .ok (.ifCond .ne 6, 3) := by decide +kernel
theorem dX0_shut_8 : decode cX0_shut 8 = .ok (.ldc 57, 2) := by decide +kernel
theorem dX0_shut_10 : decode cX0_shut 10 = .ok (.ireturn, 1) := by decide +kernel
theorem dX0_shut_11 : decode cX0_shut 11 = .ok (.aload_n 0, 1) := by decide +kernel
theorem dX0_shut_12 : decode cX0_shut 12 = .ok (.iconst 3, 1) := by decide +kernel
theorem dX0_shut_13 : decode cX0_shut 13 = .ok (.iload_n 1, 1) := by decide +kernel
theorem dX0_shut_14 : decode cX0_shut 14 = .ok (.invokevirtual 61, 3) := by decide +kernel
theorem dX0_shut_17 : decode cX0_shut 17 = .ok (.ifCond .eq 8, 3) := by decide +kernel
theorem dX0_shut_20 : decode cX0_shut 20 = .ok (.aload_n 0, 1) := by decide +kernel
theorem dX0_shut_21 : decode cX0_shut 21 = .ok (.getfield 37, 3) := by decide +kernel
theorem dX0_shut_24 : decode cX0_shut 24 = .ok (.ireturn, 1) := by decide +kernel
theorem dX0_shut_25 : decode cX0_shut 25 = .ok (.aload_n 0, 1) := by decide +kernel
theorem dX0_shut_26 : decode cX0_shut 26 = .ok (.getfield 15, 3) := by decide +kernel
theorem dX0_shut_29 : decode cX0_shut 29 = .ok (.iconst 3, 1) := by decide +kernel
theorem dX0_shut_30 : decode cX0_shut 30 = .ok (.aaload, 1) := by decide +kernel
theorem dX0_shut_31 : decode cX0_shut 31 = .ok (.iload_n 1, 1) := by decide +kernel
theorem dX0_shut_32 : decode cX0_shut 32 = .ok (.iaload, 1) := by decide +kernel
theorem dX0_shut_33 : decode cX0_shut 33 = .ok (.istore_n 2, 1) := by decide +kernel
theorem dX0_shut_34 : decode cX0_shut 34 = .ok (.aload_n 0, 1) := by decide +kernel
theorem dX0_shut_35 : decode cX0_shut 35 = .ok (.iconst 3, 1) := by decide +kernel
theorem dX0_shut_36 : decode cX0_shut 36 = .ok (.iload_n 1, 1) := by decide +kernel
theorem dX0_shut_37 : decode cX0_shut 37 = .ok (.iconst 0, 1) := by decide +kernel
theorem dX0_shut_38 : decode cX0_shut 38 = .ok (.invokevirtual 68, 3) := by decide +kernel
theorem dX0_shut_41 : decode cX0_shut 41 = .ok (.iload_n 2, 1) := by decide +kernel
theorem dX0_shut_42 : decode cX0_shut 42 = .ok (.ireturn, 1) := by decide +kernel
set_option maxRecDepth 20000 in
theorem ggX0_enter_X0_cut : GoodIn wsX0_enter wsX0_cut := goodIn_r _ [7, 8, 9, 10, 11, 12, 6, 13, 14, 15, 16, 17, 18, 19, 20] (by decide +kernel) (by decide +kernel)
set_option maxRecDepth 20000 in
theorem gX0_enter_X0_cut : GoodIn wsX0_enter (va_wsS RX0 86 yX0_cut wsX0_cut) := goodIn_app (goodIn_of _ (by decide +kernel)) ggX0_enter_X0_cut
set_option maxRecDepth 20000 in
theorem ggX0_enter_X0_endsAtLine : GoodIn wsX0_enter wsX0_endsAtLine := goodIn_r _ [24, 25, 26, 27, 28, 29, 6, 30, 31, 32, 33, 34, 35, 36, 2, 45, 46, 47, 48, 49, 50, 51, 52, 53, 54] (by decide +kernel) (by decide +kernel)
