set_option maxRecDepth 20000 in
theorem gX0_enter_X0_endsAtLine : GoodIn wsX0_enter (wsV RX0 61 RX0 yX0_endsAtLine wsX0_endsAtLine) := goodIn_app (goodIn_of _ (by decide +kernel)) ggX0_enter_X0_endsAtLine
set_option maxRecDepth 20000 in
theorem ggX0_enter_X0_endsAtArrival : GoodIn wsX0_enter wsX0_endsAtArrival := goodIn_r _ [40, 3, 21, 22, 23, 6, 24, 25, 26, 27, 28, 29, 30, 31, 32, 33, 34, 35, 36, 2, 41, 42, 43, 44, 4, 5, 7, 8, 9, 10, 11, 12, 13, 14, 15, 16, 17, 18, 19, 20, 45, 46, 47, 48, 49, 50, 51, 52, 53, 54] (by decide +kernel) (by decide +kernel)
set_option maxRecDepth 20000 in
theorem gX0_enter_X0_endsAtArrival : GoodIn wsX0_enter (wsV RX0 89 RX0 yX0_endsAtArrival wsX0_endsAtArrival) := goodIn_app (goodIn_of _ (by decide +kernel)) ggX0_enter_X0_endsAtArrival
theorem dX0_enter_0 : decode cX0_enter 0 = .ok (.iconst 0, 1) := by decide +kernel
theorem dX0_enter_1 : decode cX0_enter 1 = .ok (.iload_n 1, 1) := by decide +kernel
theorem dX0_enter_2 : decode cX0_enter 2 = .ok (.invokestatic 86, 3) := by decide +kernel
theorem dX0_enter_5 : decode cX0_enter 5 = .ok (.ifCond .eq 14, 3) := by decide +kernel
theorem dX0_enter_8 : decode cX0_enter 8 = .ok (.iload_n 2, 1) := by decide +kernel
theorem dX0_enter_9 : decode cX0_enter 9 = .ok (.ifCond .lt 10, 3) := by decide +kernel
theorem dX0_enter_12 : decode cX0_enter 12 = .ok (.iload_n 2, 1) := by decide +kernel
theorem dX0_enter_13 : decode cX0_enter 13 = .ok (.sipush 16000, 3) := by decide +kernel
theorem dX0_enter_16 : decode cX0_enter 16 = .ok (.if_icmp .le 6, 3) := by decide +kernel
theorem dX0_enter_19 : decode cX0_enter 19 = .ok (.ldc 57, 2) := by decide +kernel
theorem dX0_enter_21 : decode cX0_enter 21 = .ok (.ireturn, 1) := by decide +kernel
theorem dX0_enter_22 : decode cX0_enter 22 = .ok (.aload_n 0, 1) := by decide +kernel
theorem dX0_enter_23 : decode cX0_enter 23 = .ok (.iconst 0, 1) := by decide +kernel
theorem dX0_enter_24 : decode cX0_enter 24 = .ok (.iconst 0, 1) := by decide +kernel
theorem dX0_enter_25 : decode cX0_enter 25 = .ok (.invokevirtual 61, 3) := by decide +kernel
theorem dX0_enter_28 : decode cX0_enter 28 = .ok (.ifCond .eq 8, 3) := by decide +kernel
theorem dX0_enter_31 : decode cX0_enter 31 = .ok (.aload_n 0, 1) := by decide +kernel
theorem dX0_enter_32 : decode cX0_enter 32 = .ok (.getfield 37, 3) := by decide +kernel
theorem dX0_enter_35 : decode cX0_enter 35 = .ok (.ireturn, 1) := by decide +kernel
theorem dX0_enter_36 : decode cX0_enter 36 = .ok (.aload_n 0, 1) := by decide +kernel
theorem dX0_enter_37 : decode cX0_enter 37 = .ok (.getfield 15, 3) := by decide +kernel
theorem dX0_enter_40 : decode cX0_enter 40 = .ok (.iconst 0, 1) := by decide +kernel
theorem dX0_enter_41 : decode cX0_enter 41 = .ok (.aaload, 1) := by decide +kernel
theorem dX0_enter_42 : decode cX0_enter 42 = .ok (.iconst 0, 1) := by decide +kernel
theorem dX0_enter_43 : decode cX0_enter 43 = .ok (.iaload, 1) := by decide +kernel
theorem dX0_enter_44 : decode cX0_enter 44 = .ok (.ifCond .eq 6, 3) := by decide +kernel
theorem dX0_enter_47 : decode cX0_enter 47 = .ok (.bipush (-2), 2) := by decide +kernel
theorem dX0_enter_49 : decode cX0_enter 49 = .ok (.ireturn, 1) := by decide +kernel
theorem dX0_enter_50 : decode cX0_enter 50 = .ok (.aload_n 0, 1) := by decide +kernel
theorem dX0_enter_51 : decode cX0_enter 51 = .ok (.iconst 1, 1) := by decide +kernel
theorem dX0_enter_52 : decode cX0_enter 52 = .ok (.iconst 0, 1) := by decide +kernel
theorem dX0_enter_53 : decode cX0_enter 53 = .ok (.invokevirtual 61, 3) := by decide +kernel
theorem dX0_enter_56 : decode cX0_enter 56 = .ok (.ifCond .eq 8, 3) := by decide +kernel
theorem dX0_enter_59 : decode cX0_enter 59 = .ok (.aload_n 0, 1) := by decide +kernel
theorem dX0_enter_60 : decode cX0_enter 60 = .ok (.getfield 37, 3) := by decide +kernel
theorem dX0_enter_63 : decode cX0_enter 63 = .ok (.ireturn, 1) := by decide +kernel
theorem dX0_enter_64 : decode cX0_enter 64 = .ok (.iload_n 2, 1) := by decide +kernel
theorem dX0_enter_65 : decode cX0_enter 65 = .ok (.bipush 8, 2) := by decide +kernel
theorem dX0_enter_67 : decode cX0_enter 67 = .ok (.aload_n 0, 1) := by decide +kernel
theorem dX0_enter_68 : decode cX0_enter 68 = .ok (.getfield 15, 3) := by decide +kernel
theorem dX0_enter_71 : decode cX0_enter 71 = .ok (.iconst 1, 1) := by decide +kernel
theorem dX0_enter_72 : decode cX0_enter 72 = .ok (.aaload, 1) := by decide +kernel
theorem dX0_enter_73 : decode cX0_enter 73 = .ok (.iconst 0, 1) := by decide +kernel
theorem dX0_enter_74 : decode cX0_enter 74 = .ok (.iaload, 1) := by decide +kernel
theorem dX0_enter_75 : decode cX0_enter 75 = .ok (.imul, 1) := by decide +kernel
theorem dX0_enter_76 : decode cX0_enter 76 = .ok (.if_icmp .le 6, 3) := by decide +kernel
theorem dX0_enter_79 : decode cX0_enter 79 = .ok (.bipush (-3), 2) := by decide +kernel
theorem dX0_enter_81 : decode cX0_enter 81 = .ok (.ireturn, 1) := by decide +kernel
theorem dX0_enter_82 : decode cX0_enter 82 = .ok (.aload_n 0, 1) := by decide +kernel
theorem dX0_enter_83 : decode cX0_enter 83 = .ok (.iconst 0, 1) := by decide +kernel
theorem dX0_enter_84 : decode cX0_enter 84 = .ok (.iload_n 1, 1) := by decide +kernel
theorem dX0_enter_85 : decode cX0_enter 85 = .ok (.iload_n 2, 1) := by decide +kernel
theorem dX0_enter_86 : decode cX0_enter 86 = .ok (.invokevirtual 89, 3) := by decide +kernel
theorem dX0_enter_89 : decode cX0_enter 89 = .ok (.ifCond .eq 8, 3) := by decide +kernel
theorem dX0_enter_92 : decode cX0_enter 92 = .ok (.aload_n 0, 1) := by decide +kernel
theorem dX0_enter_93 : decode cX0_enter 93 = .ok (.getfield 37, 3) := by decide +kernel
theorem dX0_enter_96 : decode cX0_enter 96 = .ok (.ireturn, 1) := by decide +kernel
theorem dX0_enter_97 : decode cX0_enter 97 = .ok (.aload_n 0, 1) := by decide +kernel
theorem dX0_enter_98 : decode cX0_enter 98 = .ok (.getfield 15, 3) := by decide +kernel
theorem dX0_enter_101 : decode cX0_enter 101 = .ok (.iconst 4, 1) := by decide +kernel
theorem dX0_enter_102 : decode cX0_enter 102 = .ok (.aaload, 1) := by decide +kernel
theorem dX0_enter_103 : decode cX0_enter 103 = .ok (.iconst 0, 1) := by decide +kernel
theorem dX0_enter_104 : decode cX0_enter 104 = .ok (.iaload, 1) := by decide +kernel
theorem dX0_enter_105 : decode cX0_enter 105 = .ok (.ireturn, 1) := by decide +kernel
set_option maxRecDepth 20000 in
theorem ggX0_pass_X0_isChamber : GoodIn wsX0_pass wsX0_isChamber := goodIn_r _ [8, 9, 68, 69, 70, 71, 72, 73, 74, 75, 76, 77] (by decide +kernel) (by decide +kernel)
set_option maxRecDepth 20000 in
theorem gX0_pass_X0_isChamber : GoodIn wsX0_pass (wsV RX0 80 RX0 yX0_isChamber wsX0_isChamber) := goodIn_app (goodIn_of _ (by decide +kernel)) ggX0_pass_X0_isChamber
set_option maxRecDepth 20000 in
theorem ggX0_pass_X0_endsAtLine : GoodIn wsX0_pass wsX0_endsAtLine := goodIn_r _ [13, 14, 15, 16, 17, 18, 7, 19, 20, 21, 22, 23, 24, 25, 2, 68, 69, 70, 71, 72, 73, 74, 75, 76, 77] (by decide +kernel) (by decide +kernel)
set_option maxRecDepth 20000 in
theorem gX0_pass_X0_endsAtLine : GoodIn wsX0_pass (wsV RX0 61 RX0 yX0_endsAtLine wsX0_endsAtLine) := goodIn_app (goodIn_of _ (by decide +kernel)) ggX0_pass_X0_endsAtLine
set_option maxRecDepth 20000 in
theorem ggX0_pass_X0_isLast : GoodIn wsX0_pass wsX0_isLast := goodIn_r _ [29, 9, 68, 69, 70, 71, 72, 73, 74, 75, 76, 77] (by decide +kernel) (by decide +kernel)
set_option maxRecDepth 20000 in
theorem gX0_pass_X0_isLast : GoodIn wsX0_pass (wsV RX0 83 RX0 yX0_isLast wsX0_isLast) := goodIn_app (goodIn_of _ (by decide +kernel)) ggX0_pass_X0_isLast
set_option maxRecDepth 20000 in
theorem ggX0_pass_X0_goOut : GoodIn wsX0_pass wsX0_goOut := goodIn_r _ [33, 2, 34, 35, 3, 10, 11, 12, 7, 13, 14, 15, 16, 17, 18, 19, 20, 21, 22, 23, 24, 25, 36, 37, 38, 39, 40, 41, 42, 43, 44, 45, 46, 47, 48, 49, 50, 51, 52, 53, 54, 55, 56, 57, 58, 59, 68, 69, 70, 71, 72, 73, 74, 75, 76, 77] (by decide +kernel) (by decide +kernel)
set_option maxRecDepth 20000 in
theorem gX0_pass_X0_goOut : GoodIn wsX0_pass (wsV RX0 93 RX0 yX0_goOut wsX0_goOut) := goodIn_app (goodIn_of _ (by decide +kernel)) ggX0_pass_X0_goOut
set_option maxRecDepth 20000 in
theorem ggX0_pass_X0_goOn : GoodIn wsX0_pass wsX0_goOn := goodIn_r _ [63, 2, 3, 10, 11, 12, 7, 13, 14, 15, 16, 17, 18, 19, 20, 21, 22, 23, 24, 25, 64, 65, 66, 67, 40, 41, 42, 43, 44, 45, 46, 47, 48, 49, 50, 51, 52, 53, 54, 55, 56, 57, 58, 59, 36, 37, 38, 39, 68, 69, 70, 71, 72, 73, 74, 75, 76, 77] (by decide +kernel) (by decide +kernel)
set_option maxRecDepth 20000 in
theorem gX0_pass_X0_goOn : GoodIn wsX0_pass (wsV RX0 97 RX0 yX0_goOn wsX0_goOn) := goodIn_app (goodIn_of _ (by decide +kernel)) ggX0_pass_X0_goOn
theorem dX0_pass_0 : decode cX0_pass 0 = .ok (.aload_n 0, 1) := by decide +kernel
theorem dX0_pass_1 : decode cX0_pass 1 = .ok (.iload_n 1, 1) := by decide +kernel
theorem dX0_pass_2 : decode cX0_pass 2 = .ok (.invokevirtual 80, 3) := by decide +kernel
theorem dX0_pass_5 : decode cX0_pass 5 = .ok (.ifCond .ne 6, 3) := by decide +kernel
theorem dX0_pass_8 : decode cX0_pass 8 = .ok (.ldc 57, 2) := by decide +kernel
theorem dX0_pass_10 : decode cX0_pass 10 = .ok (.ireturn, 1) := by decide +kernel
theorem dX0_pass_11 : decode cX0_pass 11 = .ok (.aload_n 0, 1) := by decide +kernel
theorem dX0_pass_12 : decode cX0_pass 12 = .ok (.iconst 3, 1) := by decide +kernel
theorem dX0_pass_13 : decode cX0_pass 13 = .ok (.iload_n 1, 1) := by decide +kernel
theorem dX0_pass_14 : decode cX0_pass 14 = .ok (.invokevirtual 61, 3) := by decide +kernel
theorem dX0_pass_17 : decode cX0_pass 17 = .ok (.ifCond .eq 8, 3) := by decide +kernel
theorem dX0_pass_20 : decode cX0_pass 20 = .ok (.aload_n 0, 1) := by decide +kernel
theorem dX0_pass_21 : decode cX0_pass 21 = .ok (.getfield 37, 3) := by decide +kernel
theorem dX0_pass_24 : decode cX0_pass 24 = .ok (.ireturn, 1) := by decide +kernel
theorem dX0_pass_25 : decode cX0_pass 25 = .ok (.aload_n 0, 1) := by decide +kernel
theorem dX0_pass_26 : decode cX0_pass 26 = .ok (.getfield 15, 3) := by decide +kernel
theorem dX0_pass_29 : decode cX0_pass 29 = .ok (.iconst 3, 1) := by decide +kernel
theorem dX0_pass_30 : decode cX0_pass 30 = .ok (.aaload, 1) := by decide +kernel
theorem dX0_pass_31 : decode cX0_pass 31 = .ok (.iload_n 1, 1) := by decide +kernel
theorem dX0_pass_32 : decode cX0_pass 32 = .ok (.iaload, 1) := by decide +kernel
theorem dX0_pass_33 : decode cX0_pass 33 = .ok (.ifCond .ne 6, 3) := by decide +kernel
theorem dX0_pass_36 : decode cX0_pass 36 = .ok (.bipush (-2), 2) := by decide +kernel
theorem dX0_pass_38 : decode cX0_pass 38 = .ok (.ireturn, 1) := by decide +kernel
theorem dX0_pass_39 : decode cX0_pass 39 = .ok (.aload_n 0, 1) := by decide +kernel
theorem dX0_pass_40 : decode cX0_pass 40 = .ok (.iconst 0, 1) := by decide +kernel
theorem dX0_pass_41 : decode cX0_pass 41 = .ok (.iload_n 1, 1) := by decide +kernel
theorem dX0_pass_42 : decode cX0_pass 42 = .ok (.invokevirtual 61, 3) := by decide +kernel
theorem dX0_pass_45 : decode cX0_pass 45 = .ok (.ifCond .eq 8, 3) := by decide +kernel
theorem dX0_pass_48 : decode cX0_pass 48 = .ok (.aload_n 0, 1) := by decide +kernel
theorem dX0_pass_49 : decode cX0_pass 49 = .ok (.getfield 37, 3) := by decide +kernel
theorem dX0_pass_52 : decode cX0_pass 52 = .ok (.ireturn, 1) := by decide +kernel
theorem dX0_pass_53 : decode cX0_pass 53 = .ok (.aload_n 0, 1) := by decide +kernel
theorem dX0_pass_54 : decode cX0_pass 54 = .ok (.getfield 15, 3) := by decide +kernel
theorem dX0_pass_57 : decode cX0_pass 57 = .ok (.iconst 0, 1) := by decide +kernel
theorem dX0_pass_58 : decode cX0_pass 58 = .ok (.aaload, 1) := by decide +kernel
theorem dX0_pass_59 : decode cX0_pass 59 = .ok (.iload_n 1, 1) := by decide +kernel
theorem dX0_pass_60 : decode cX0_pass 60 = .ok (.iaload, 1) := by decide +kernel
theorem dX0_pass_61 : decode cX0_pass 61 = .ok (.ifCond .ne 6, 3) := by decide +kernel
theorem dX0_pass_64 : decode cX0_pass 64 = .ok (.bipush (-3), 2) := by decide +kernel
theorem dX0_pass_66 : decode cX0_pass 66 = .ok (.ireturn, 1) := by decide +kernel
theorem dX0_pass_67 : decode cX0_pass 67 = .ok (.aload_n 0, 1) := by decide +kernel
theorem dX0_pass_68 : decode cX0_pass 68 = .ok (.iload_n 1, 1) := by decide +kernel
theorem dX0_pass_69 : decode cX0_pass 69 = .ok (.invokevirtual 83, 3) := by decide +kernel
theorem dX0_pass_72 : decode cX0_pass 72 = .ok (.ifCond .eq 11, 3) := by decide +kernel
theorem dX0_pass_75 : decode cX0_pass 75 = .ok (.aload_n 0, 1) := by decide +kernel
theorem dX0_pass_76 : decode cX0_pass 76 = .ok (.iload_n 1, 1) := by decide +kernel
theorem dX0_pass_77 : decode cX0_pass 77 = .ok (.invokevirtual 93, 3) := by decide +kernel
theorem dX0_pass_80 : decode cX0_pass 80 = .ok (.goto 8, 3) := by decide +kernel
theorem dX0_pass_83 : decode cX0_pass 83 = .ok (.aload_n 0, 1) := by decide +kernel
theorem dX0_pass_84 : decode cX0_pass 84 = .ok (.iload_n 1, 1) := by decide +kernel
theorem dX0_pass_85 : decode cX0_pass 85 = .ok (.invokevirtual 97, 3) := by decide +kernel
theorem dX0_pass_88 : decode cX0_pass 88 = .ok (.ireturn, 1) := by decide +kernel
set_option maxRecDepth 20000 in
theorem ggX0_survey_J7_fill_53178 : GoodIn wsX0_survey wsJ7_fill_53178 := goodIn_r _ [7] (by decide +kernel) (by decide +kernel)
set_option maxRecDepth 20000 in
theorem gX0_survey_J7_fill_53178 : GoodIn wsX0_survey (va_wsS RX0 47 yJ7_fill_53178 wsJ7_fill_53178) := goodIn_app (goodIn_of _ (by decide +kernel)) ggX0_survey_J7_fill_53178
theorem dX0_survey_0 : decode cX0_survey 0 = .ok (.iload_n 1, 1) := by decide +kernel
theorem dX0_survey_1 : decode cX0_survey 1 = .ok (.bipush 24, 2) := by decide +kernel
theorem dX0_survey_3 : decode cX0_survey 3 = .ok (.if_icmp .gt 9, 3) := by decide +kernel
theorem dX0_survey_6 : decode cX0_survey 6 = .ok (.iload_n 2, 1) := by decide +kernel
theorem dX0_survey_7 : decode cX0_survey 7 = .ok (.bipush 24, 2) := by decide +kernel
theorem dX0_survey_9 : decode cX0_survey 9 = .ok (.if_icmp .le 6, 3) := by decide +kernel
theorem dX0_survey_12 : decode cX0_survey 12 = .ok (.bipush (-2), 2) := by decide +kernel
theorem dX0_survey_14 : decode cX0_survey 14 = .ok (.ireturn, 1) := by decide +kernel
theorem dX0_survey_15 : decode cX0_survey 15 = .ok (.iload_n 1, 1) := by decide +kernel
theorem dX0_survey_16 : decode cX0_survey 16 = .ok (.ifCond .lt 7, 3) := by decide +kernel
theorem dX0_survey_19 : decode cX0_survey 19 = .ok (.iload_n 2, 1) := by decide +kernel
theorem dX0_survey_20 : decode cX0_survey 20 = .ok (.ifCond .ge 6, 3) := by decide +kernel
theorem dX0_survey_23 : decode cX0_survey 23 = .ok (.bipush (-3), 2) := by decide +kernel
theorem dX0_survey_25 : decode cX0_survey 25 = .ok (.ireturn, 1) := by decide +kernel
theorem dX0_survey_26 : decode cX0_survey 26 = .ok (.iconst 0, 1) := by decide +kernel
theorem dX0_survey_27 : decode cX0_survey 27 = .ok (.istore_n 3, 1) := by decide +kernel
theorem dX0_survey_28 : decode cX0_survey 28 = .ok (.iload_n 3, 1) := by decide +kernel
theorem dX0_survey_29 : decode cX0_survey 29 = .ok (.iload_n 1, 1) := by decide +kernel
theorem dX0_survey_30 : decode cX0_survey 30 = .ok (.if_icmp .ge 19, 3) := by decide +kernel
theorem dX0_survey_33 : decode cX0_survey 33 = .ok (.aload_n 0, 1) := by decide +kernel
theorem dX0_survey_34 : decode cX0_survey 34 = .ok (.getfield 18, 3) := by decide +kernel
theorem dX0_survey_37 : decode cX0_survey 37 = .ok (.iload_n 3, 1) := by decide +kernel
theorem dX0_survey_38 : decode cX0_survey 38 = .ok (.aaload, 1) := by decide +kernel
theorem dX0_survey_39 : decode cX0_survey 39 = .ok (.iconst 0, 1) := by decide +kernel
theorem dX0_survey_40 : decode cX0_survey 40 = .ok (.invokestatic 47, 3) := by decide +kernel
theorem dX0_survey_43 : decode cX0_survey 43 = .ok (.iinc 3 1, 3) := by decide +kernel
theorem dX0_survey_46 : decode cX0_survey 46 = .ok (.goto (-18), 3) := by decide +kernel
theorem dX0_survey_49 : decode cX0_survey 49 = .ok (.aload_n 0, 1) := by decide +kernel
theorem dX0_survey_50 : decode cX0_survey 50 = .ok (.iload_n 1, 1) := by decide +kernel
theorem dX0_survey_51 : decode cX0_survey 51 = .ok (.putfield 21, 3) := by decide +kernel
theorem dX0_survey_54 : decode cX0_survey 54 = .ok (.aload_n 0, 1) := by decide +kernel
theorem dX0_survey_55 : decode cX0_survey 55 = .ok (.iload_n 2, 1) := by decide +kernel
theorem dX0_survey_56 : decode cX0_survey 56 = .ok (.putfield 25, 3) := by decide +kernel
theorem dX0_survey_59 : decode cX0_survey 59 = .ok (.iconst 0, 1) := by decide +kernel
theorem dX0_survey_60 : decode cX0_survey 60 = .ok (.ireturn, 1) := by decide +kernel
set_option maxRecDepth 20000 in
theorem ggX0_note_X0_isBook : GoodIn wsX0_note wsX0_isBook := goodIn_r _ [8] (by decide +kernel) (by decide +kernel)
set_option maxRecDepth 20000 in
theorem gX0_note_X0_isBook : GoodIn wsX0_note (va_wsS RX0 53 yX0_isBook wsX0_isBook) := goodIn_app (goodIn_of _ (by decide +kernel)) ggX0_note_X0_isBook
set_option maxRecDepth 20000 in
theorem ggX0_note_X0_endsAtLine : GoodIn wsX0_note wsX0_endsAtLine := goodIn_r _ [12, 13, 14, 15, 16, 17, 7, 18, 19, 20, 21, 22, 23, 24, 2, 38, 39, 40, 41, 42, 43, 44, 45, 46, 47] (by decide +kernel) (by decide +kernel)
set_option maxRecDepth 20000 in
theorem gX0_note_X0_endsAtLine : GoodIn wsX0_note (wsV RX0 61 RX0 yX0_endsAtLine wsX0_endsAtLine) := goodIn_app (goodIn_of _ (by decide +kernel)) ggX0_note_X0_endsAtLine
set_option maxRecDepth 20000 in
theorem ggX0_note_X0_endsAtPlace : GoodIn wsX0_note wsX0_endsAtPlace := goodIn_r _ [28, 29, 30, 31, 32, 33, 7, 34, 35, 36, 37, 20, 21, 22, 23, 24, 2, 38, 39, 40, 41, 42, 43, 44, 45, 46, 47] (by decide +kernel) (by decide +kernel)
set_option maxRecDepth 20000 in
theorem gX0_note_X0_endsAtPlace : GoodIn wsX0_note (wsV RX0 100 RX0 yX0_endsAtPlace wsX0_endsAtPlace) := goodIn_app (goodIn_of _ (by decide +kernel)) ggX0_note_X0_endsAtPlace
theorem dX0_note_0 : decode cX0_note 0 = .ok (.iload_n 1, 1) := by decide +kernel
theorem dX0_note_1 : decode cX0_note 1 = .ok (.invokestatic 53, 3) := by decide +kernel
theorem dX0_note_4 : decode cX0_note 4 = .ok (.ifCond .ne 6, 3) := by decide +kernel
theorem dX0_note_7 : decode cX0_note 7 = .ok (.ldc 57, 2) := by decide +kernel
theorem dX0_note_9 : decode cX0_note 9 = .ok (.ireturn, 1) := by decide +kernel
theorem dX0_note_10 : decode cX0_note 10 = .ok (.aload_n 0, 1) := by decide +kernel
theorem dX0_note_11 : decode cX0_note 11 = .ok (.iload_n 1, 1) := by decide +kernel
theorem dX0_note_12 : decode cX0_note 12 = .ok (.iload_n 2, 1) := by decide +kernel
theorem dX0_note_13 : decode cX0_note 13 = .ok (.invokevirtual 61, 3) := by decide +kernel
theorem dX0_note_16 : decode cX0_note 16 = .ok (.ifCond .ne 13, 3) := by decide +kernel
theorem dX0_note_19 : decode cX0_note 19 = .ok (.aload_n 0, 1) := by decide +kernel
theorem dX0_note_20 : decode cX0_note 20 = .ok (.iload_n 3, 1) := by decide +kernel
theorem dX0_note_21 : decode cX0_note 21 = .ok (.iload 4, 2) := by decide +kernel
theorem dX0_note_23 : decode cX0_note 23 = .ok (.invokevirtual 100, 3) := by decide +kernel
theorem dX0_note_26 : decode cX0_note 26 = .ok (.ifCond .eq 8, 3) := by decide +kernel
theorem dX0_note_29 : decode cX0_note 29 = .ok (.aload_n 0, 1) := by decide +kernel
theorem dX0_note_30 : decode cX0_note 30 = .ok (.getfield 37, 3) := by decide +kernel
theorem dX0_note_33 : decode cX0_note 33 = .ok (.ireturn, 1) := by decide +kernel
theorem dX0_note_34 : decode cX0_note 34 = .ok (.aload_n 0, 1) := by decide +kernel
theorem dX0_note_35 : decode cX0_note 35 = .ok (.getfield 18, 3) := by decide +kernel
theorem dX0_note_38 : decode cX0_note 38 = .ok (.iload_n 3, 1) := by decide +kernel
theorem dX0_note_39 : decode cX0_note 39 = .ok (.aaload, 1) := by decide +kernel
theorem dX0_note_40 : decode cX0_note 40 = .ok (.iload 4, 2) := by decide +kernel
theorem dX0_note_42 : decode cX0_note 42 = .ok (.aload_n 0, 1) := by decide +kernel
theorem dX0_note_43 : decode cX0_note 43 = .ok (.getfield 15, 3) := by decide +kernel
theorem dX0_note_46 : decode cX0_note 46 = .ok (.iload_n 1, 1) := by decide +kernel
theorem dX0_note_47 : decode cX0_note 47 = .ok (.aaload, 1) := by decide +kernel
theorem dX0_note_48 : decode cX0_note 48 = .ok (.iload_n 2, 1) := by decide +kernel
theorem dX0_note_49 : decode cX0_note 49 = .ok (.iaload, 1) := by decide +kernel
theorem dX0_note_50 : decode cX0_note 50 = .ok (.iastore, 1) := by decide +kernel
theorem dX0_note_51 : decode cX0_note 51 = .ok (.iconst 0, 1) := by decide +kernel
theorem dX0_note_52 : decode cX0_note 52 = .ok (.ireturn, 1) := by decide +kernel
set_option maxRecDepth 20000 in
theorem ggX0_chart_X0_endsAtPlace : GoodIn wsX0_chart wsX0_endsAtPlace := goodIn_r _ [7, 8, 9, 10, 11, 12, 6, 13, 14, 15, 16, 17, 18, 19, 20, 21, 1, 22, 23, 24, 25, 26, 27, 28, 29, 30, 31] (by decide +kernel) (by decide +kernel)
set_option maxRecDepth 20000 in
theorem gX0_chart_X0_endsAtPlace : GoodIn wsX0_chart (wsV RX0 100 RX0 yX0_endsAtPlace wsX0_endsAtPlace) := goodIn_app (goodIn_of _ (by decide +kernel)) ggX0_chart_X0_endsAtPlace
theorem dX0_chart_0 : decode cX0_chart 0 = .ok (.aload_n 0, 1) := by decide +kernel
theorem dX0_chart_1 : decode cX0_chart 1 = .ok (.iload_n 1, 1) := by decide +kernel
theorem dX0_chart_2 : decode cX0_chart 2 = .ok (.iload_n 2, 1) := by decide +kernel
theorem dX0_chart_3 : decode cX0_chart 3 = .ok (.invokevirtual 100, 3) := by decide +kernel
theorem dX0_chart_6 : decode cX0_chart 6 = .ok (.ifCond .eq 8, 3) := by decide +kernel
theorem dX0_chart_9 : decode cX0_chart 9 = .ok (.aload_n 0, 1) := by decide +kernel
theorem dX0_chart_10 : decode cX0_chart 10 = .ok (.getfield 37, 3) := by decide +kernel
theorem dX0_chart_13 : decode cX0_chart 13 = .ok (.ireturn, 1) := by decide +kernel
theorem dX0_chart_14 : decode cX0_chart 14 = .ok (.aload_n 0, 1) := by decide +kernel
theorem dX0_chart_15 : decode cX0_chart 15 = .ok (.getfield 18, 3) := by decide +kernel
theorem dX0_chart_18 : decode cX0_chart 18 = .ok (.iload_n 1, 1) := by decide +kernel
theorem dX0_chart_19 : decode cX0_chart 19 = .ok (.aaload, 1) := by decide +kernel
theorem dX0_chart_20 : decode cX0_chart 20 = .ok (.iload_n 2, 1) := by decide +kernel
theorem dX0_chart_21 : decode cX0_chart 21 = .ok (.iaload, 1) := by decide +kernel
theorem dX0_chart_22 : decode cX0_chart 22 = .ok (.ireturn, 1) := by decide +kernel
set_option maxRecDepth 20000 in
theorem ggX0_columns_X0_endsAtRow : GoodIn wsX0_columns wsX0_endsAtRow := goodIn_r _ [7, 8, 9, 10, 11, 12, 13, 6, 14, 15, 1, 16, 17, 18, 19, 20, 21, 22, 23, 24, 25] (by decide +kernel) (by decide +kernel)
set_option maxRecDepth 20000 in
theorem gX0_columns_X0_endsAtRow : GoodIn wsX0_columns (wsV RX0 103 RX0 yX0_endsAtRow wsX0_endsAtRow) := goodIn_app (goodIn_of _ (by decide +kernel)) ggX0_columns_X0_endsAtRow
theorem dX0_columns_0 : decode cX0_columns 0 = .ok (.aload_n 0, 1) := by decide +kernel
theorem dX0_columns_1 : decode cX0_columns 1 = .ok (.iload_n 1, 1) := by decide +kernel
theorem dX0_columns_2 : decode cX0_columns 2 = .ok (.invokevirtual 103, 3) := by decide +kernel
theorem dX0_columns_5 : decode cX0_columns 5 = .ok (.ifCond .eq 8, 3) := by decide +kernel
theorem dX0_columns_8 : decode cX0_columns 8 = .ok (.aload_n 0, 1) := by decide +kernel
theorem dX0_columns_9 : decode cX0_columns 9 = .ok (.getfield 37, 3) := by decide +kernel
theorem dX0_columns_12 : decode cX0_columns 12 = .ok (.ireturn, 1) := by decide +kernel
theorem dX0_columns_13 : decode cX0_columns 13 = .ok (.aload_n 0, 1) := by decide +kernel
theorem dX0_columns_14 : decode cX0_columns 14 = .ok (.getfield 25, 3) := by decide +kernel
theorem dX0_columns_17 : decode cX0_columns 17 = .ok (.ireturn, 1) := by decide +kernel
set_option maxRecDepth 20000 in
theorem ggX0_look_X0_booksKept : GoodIn wsX0_look wsX0_booksKept := goodIn_r _ [11, 12, 13, 14, 15, 16, 17, 18, 19, 20, 21, 22] (by decide +kernel) (by decide +kernel)
set_option maxRecDepth 20000 in
theorem gX0_look_X0_booksKept : GoodIn wsX0_look (wsV RX0 106 RX0 yX0_booksKept wsX0_booksKept) := goodIn_app (goodIn_of _ (by decide +kernel)) ggX0_look_X0_booksKept
theorem dX0_look_0 : decode cX0_look 0 = .ok (.iload_n 1, 1) := by decide +kernel
theorem dX0_look_1 : decode cX0_look 1 = .ok (.tableswitch 69 0 5 #[39, 44, 49, 54, 59, 64], 39) := by decide +kernel
theorem dX0_look_40 : decode cX0_look 40 = .ok (.aload_n 0, 1) := by decide +kernel
theorem dX0_look_41 : decode cX0_look 41 = .ok (.getfield 44, 3) := by decide +kernel
theorem dX0_look_44 : decode cX0_look 44 = .ok (.ireturn, 1) := by decide +kernel
theorem dX0_look_45 : decode cX0_look 45 = .ok (.aload_n 0, 1) := by decide +kernel
theorem dX0_look_46 : decode cX0_look 46 = .ok (.getfield 28, 3) := by decide +kernel
theorem dX0_look_49 : decode cX0_look 49 = .ok (.ireturn, 1) := by decide +kernel
theorem dX0_look_50 : decode cX0_look 50 = .ok (.aload_n 0, 1) := by decide +kernel
theorem dX0_look_51 : decode cX0_look 51 = .ok (.getfield 31, 3) := by decide +kernel
theorem dX0_look_54 : decode cX0_look 54 = .ok (.ireturn, 1) := by decide +kernel
theorem dX0_look_55 : decode cX0_look 55 = .ok (.aload_n 0, 1) := by decide +kernel
theorem dX0_look_56 : decode cX0_look 56 = .ok (.getfield 34, 3) := by decide +kernel
theorem dX0_look_59 : decode cX0_look 59 = .ok (.ireturn, 1) := by decide +kernel
theorem dX0_look_60 : decode cX0_look 60 = .ok (.aload_n 0, 1) := by decide +kernel
theorem dX0_look_61 : decode cX0_look 61 = .ok (.getfield 37, 3) := by decide +kernel
theorem dX0_look_64 : decode cX0_look 64 = .ok (.ireturn, 1) := by decide +kernel
theorem dX0_look_65 : decode cX0_look 65 = .ok (.aload_n 0, 1) := by decide +kernel
theorem dX0_look_66 : decode cX0_look 66 = .ok (.invokevirtual 106, 3) := by decide +kernel
theorem dX0_look_69 : decode cX0_look 69 = .ok (.ireturn, 1) := by decide +kernel
theorem dX0_look_70 : decode cX0_look 70 = .ok (.ldc 57, 2) := by decide +kernel
theorem dX0_look_72 : decode cX0_look 72 = .ok (.ireturn, 1) := by decide +kernel
theorem dX0_isBook_0 : decode cX0_isBook 0 = .ok (.iload_n 0, 1) := by decide +kernel
theorem dX0_isBook_1 : decode cX0_isBook 1 = .ok (.ifCond .lt 12, 3) := by decide +kernel
theorem dX0_isBook_4 : decode cX0_isBook 4 = .ok (.iload_n 0, 1) := by decide +kernel
theorem dX0_isBook_5 : decode cX0_isBook 5 = .ok (.iconst 5, 1) := by decide +kernel
theorem dX0_isBook_6 : decode cX0_isBook 6 = .ok (.if_icmp .ge 7, 3) := by decide +kernel
theorem dX0_isBook_9 : decode cX0_isBook 9 = .ok (.iconst 1, 1) := by decide +kernel
theorem dX0_isBook_10 : decode cX0_isBook 10 = .ok (.goto 4, 3) := by decide +kernel
theorem dX0_isBook_13 : decode cX0_isBook 13 = .ok (.iconst 0, 1) := by decide +kernel
theorem dX0_isBook_14 : decode cX0_isBook 14 = .ok (.ireturn, 1) := by decide +kernel
theorem dX0_isChamber_0 : decode cX0_isChamber 0 = .ok (.iload_n 1, 1) := by decide +kernel
theorem dX0_isChamber_1 : decode cX0_isChamber 1 = .ok (.ifCond .lt 15, 3) := by decide +kernel
theorem dX0_isChamber_4 : decode cX0_isChamber 4 = .ok (.iload_n 1, 1) := by decide +kernel
theorem dX0_isChamber_5 : decode cX0_isChamber 5 = .ok (.aload_n 0, 1) := by decide +kernel
theorem dX0_isChamber_6 : decode cX0_isChamber 6 = .ok (.getfield 44, 3) := by decide +kernel
theorem dX0_isChamber_9 : decode cX0_isChamber 9 = .ok (.if_icmp .ge 7, 3) := by decide +kernel
theorem dX0_isChamber_12 : decode cX0_isChamber 12 = .ok (.iconst 1, 1) := by decide +kernel
theorem dX0_isChamber_13 : decode cX0_isChamber 13 = .ok (.goto 4, 3) := by decide +kernel
theorem dX0_isChamber_16 : decode cX0_isChamber 16 = .ok (.iconst 0, 1) := by decide +kernel
theorem dX0_isChamber_17 : decode cX0_isChamber 17 = .ok (.ireturn, 1) := by decide +kernel
theorem dX0_isLast_0 : decode cX0_isLast 0 = .ok (.iload_n 1, 1) := by decide +kernel
theorem dX0_isLast_1 : decode cX0_isLast 1 = .ok (.aload_n 0, 1) := by decide +kernel
theorem dX0_isLast_2 : decode cX0_isLast 2 = .ok (.getfield 44, 3) := by decide +kernel
theorem dX0_isLast_5 : decode cX0_isLast 5 = .ok (.iconst 1, 1) := by decide +kernel
theorem dX0_isLast_6 : decode cX0_isLast 6 = .ok (.isub, 1) := by decide +kernel
theorem dX0_isLast_7 : decode cX0_isLast 7 = .ok (.if_icmp .ne 7, 3) := by decide +kernel
theorem dX0_isLast_10 : decode cX0_isLast 10 = .ok (.iconst 1, 1) := by decide +kernel
theorem dX0_isLast_11 : decode cX0_isLast 11 = .ok (.goto 4, 3) := by decide +kernel
theorem dX0_isLast_14 : decode cX0_isLast 14 = .ok (.iconst 0, 1) := by decide +kernel
theorem dX0_isLast_15 : decode cX0_isLast 15 = .ok (.ireturn, 1) := by decide +kernel
theorem dX0_isToldLoad_0 : decode cX0_isToldLoad 0 = .ok (.iload_n 0, 1) := by decide +kernel
theorem dX0_isToldLoad_1 : decode cX0_isToldLoad 1 = .ok (.sipush (-16000), 3) := by decide +kernel
theorem dX0_isToldLoad_4 : decode cX0_isToldLoad 4 = .ok (.if_icmp .lt 14, 3) := by decide +kernel
theorem dX0_isToldLoad_7 : decode cX0_isToldLoad 7 = .ok (.iload_n 0, 1) := by decide +kernel
theorem dX0_isToldLoad_8 : decode cX0_isToldLoad 8 = .ok (.sipush 16000, 3) := by decide +kernel
theorem dX0_isToldLoad_11 : decode cX0_isToldLoad 11 = .ok (.if_icmp .gt 7, 3) := by decide +kernel
theorem dX0_isToldLoad_14 : decode cX0_isToldLoad 14 = .ok (.iconst 1, 1) := by decide +kernel
theorem dX0_isToldLoad_15 : decode cX0_isToldLoad 15 = .ok (.goto 4, 3) := by decide +kernel
theorem dX0_isToldLoad_18 : decode cX0_isToldLoad 18 = .ok (.iconst 0, 1) := by decide +kernel
theorem dX0_isToldLoad_19 : decode cX0_isToldLoad 19 = .ok (.ireturn, 1) := by decide +kernel
set_option maxRecDepth 20000 in
theorem ggX0_endsAtBook_X0_ended : GoodIn wsX0_endsAtBook wsX0_ended := goodIn_r _ [7, 8, 9, 10, 11, 12, 13, 14, 15, 16, 17, 18, 19] (by decide +kernel) (by decide +kernel)
set_option maxRecDepth 20000 in
theorem gX0_endsAtBook_X0_ended : GoodIn wsX0_endsAtBook (wsV RX0 111 RX0 yX0_ended wsX0_ended) := goodIn_app (goodIn_of _ (by decide +kernel)) ggX0_endsAtBook_X0_ended
theorem dX0_endsAtBook_0 : decode cX0_endsAtBook 0 = .ok (.aload_n 0, 1) := by decide +kernel
theorem dX0_endsAtBook_1 : decode cX0_endsAtBook 1 = .ok (.getfield 9, 3) := by decide +kernel
theorem dX0_endsAtBook_4 : decode cX0_endsAtBook 4 = .ok (.iload_n 1, 1) := by decide +kernel
theorem dX0_endsAtBook_5 : decode cX0_endsAtBook 5 = .ok (.iaload, 1) := by decide +kernel
theorem dX0_endsAtBook_6 : decode cX0_endsAtBook 6 = .ok (.iconst (-1), 1) := by decide +kernel
theorem dX0_endsAtBook_7 : decode cX0_endsAtBook 7 = .ok (.if_icmp .ne 12, 3) := by decide +kernel
theorem dX0_endsAtBook_10 : decode cX0_endsAtBook 10 = .ok (.aload_n 0, 1) := by decide +kernel
theorem dX0_endsAtBook_11 : decode cX0_endsAtBook 11 = .ok (.ldc 110, 2) := by decide +kernel
theorem dX0_endsAtBook_13 : decode cX0_endsAtBook 13 = .ok (.iload_n 1, 1) := by decide +kernel
theorem dX0_endsAtBook_14 : decode cX0_endsAtBook 14 = .ok (.isub, 1) := by decide +kernel
theorem dX0_endsAtBook_15 : decode cX0_endsAtBook 15 = .ok (.invokevirtual 111, 3) := by decide +kernel
theorem dX0_endsAtBook_18 : decode cX0_endsAtBook 18 = .ok (.ireturn, 1) := by decide +kernel
theorem dX0_endsAtBook_19 : decode cX0_endsAtBook 19 = .ok (.iconst 0, 1) := by decide +kernel
theorem dX0_endsAtBook_20 : decode cX0_endsAtBook 20 = .ok (.ireturn, 1) := by decide +kernel
set_option maxRecDepth 20000 in
theorem ggX0_endsAtLine_X0_endsAtBook : GoodIn wsX0_endsAtLine wsX0_endsAtBook := goodIn_r _ [7, 1, 8, 9, 10, 11, 6, 12, 13, 14, 15, 16, 17, 18, 19, 20, 21, 22, 23, 24] (by decide +kernel) (by decide +kernel)
set_option maxRecDepth 20000 in
theorem gX0_endsAtLine_X0_endsAtBook : GoodIn wsX0_endsAtLine (wsV RX0 58 RX0 yX0_endsAtBook wsX0_endsAtBook) := goodIn_app (goodIn_of _ (by decide +kernel)) ggX0_endsAtLine_X0_endsAtBook
set_option maxRecDepth 20000 in
theorem ggX0_endsAtLine_X0_ended : GoodIn wsX0_endsAtLine wsX0_ended := goodIn_r _ [12, 13, 14, 15, 16, 17, 18, 19, 20, 21, 22, 23, 24] (by decide +kernel) (by decide +kernel)
set_option maxRecDepth 20000 in
theorem gX0_endsAtLine_X0_ended : GoodIn wsX0_endsAtLine (wsV RX0 111 RX0 yX0_ended wsX0_ended) := goodIn_app (goodIn_of _ (by decide +kernel)) ggX0_endsAtLine_X0_ended
theorem dX0_endsAtLine_0 : decode cX0_endsAtLine 0 = .ok (.aload_n 0, 1) := by decide +kernel
theorem dX0_endsAtLine_1 : decode cX0_endsAtLine 1 = .ok (.iload_n 1, 1) := by decide +kernel
theorem dX0_endsAtLine_2 : decode cX0_endsAtLine 2 = .ok (.invokevirtual 58, 3) := by decide +kernel
theorem dX0_endsAtLine_5 : decode cX0_endsAtLine 5 = .ok (.ifCond .eq 5, 3) := by decide +kernel
theorem dX0_endsAtLine_8 : decode cX0_endsAtLine 8 = .ok (.iconst 1, 1) := by decide +kernel
theorem dX0_endsAtLine_9 : decode cX0_endsAtLine 9 = .ok (.ireturn, 1) := by decide +kernel
theorem dX0_endsAtLine_10 : decode cX0_endsAtLine 10 = .ok (.iload_n 2, 1) := by decide +kernel
theorem dX0_endsAtLine_11 : decode cX0_endsAtLine 11 = .ok (.ifCond .lt 13, 3) := by decide +kernel
theorem dX0_endsAtLine_14 : decode cX0_endsAtLine 14 = .ok (.iload_n 2, 1) := by decide +kernel
theorem dX0_endsAtLine_15 : decode cX0_endsAtLine 15 = .ok (.aload_n 0, 1) := by decide +kernel
theorem dX0_endsAtLine_16 : decode cX0_endsAtLine 16 = .ok (.getfield 9, 3) := by decide +kernel
theorem dX0_endsAtLine_19 : decode cX0_endsAtLine 19 = .ok (.iload_n 1, 1) := by decide +kernel
theorem dX0_endsAtLine_20 : decode cX0_endsAtLine 20 = .ok (.iaload, 1) := by decide +kernel
theorem dX0_endsAtLine_21 : decode cX0_endsAtLine 21 = .ok (.if_icmp .lt 12, 3) := by decide +kernel
theorem dX0_endsAtLine_24 : decode cX0_endsAtLine 24 = .ok (.aload_n 0, 1) := by decide +kernel
theorem dX0_endsAtLine_25 : decode cX0_endsAtLine 25 = .ok (.ldc 114, 2) := by decide +kernel
theorem dX0_endsAtLine_27 : decode cX0_endsAtLine 27 = .ok (.iload_n 1, 1) := by decide +kernel
theorem dX0_endsAtLine_28 : decode cX0_endsAtLine 28 = .ok (.isub, 1) := by decide +kernel
theorem dX0_endsAtLine_29 : decode cX0_endsAtLine 29 = .ok (.invokevirtual 111, 3) := by decide +kernel
theorem dX0_endsAtLine_32 : decode cX0_endsAtLine 32 = .ok (.ireturn, 1) := by decide +kernel
theorem dX0_endsAtLine_33 : decode cX0_endsAtLine 33 = .ok (.iconst 0, 1) := by decide +kernel
theorem dX0_endsAtLine_34 : decode cX0_endsAtLine 34 = .ok (.ireturn, 1) := by decide +kernel
set_option maxRecDepth 20000 in
theorem ggX0_endsAtRow_X0_ended : GoodIn wsX0_endsAtRow wsX0_ended := goodIn_r _ [8, 9, 10, 11, 12, 13, 14, 15, 16, 17, 18, 19, 20] (by decide +kernel) (by decide +kernel)
set_option maxRecDepth 20000 in
theorem gX0_endsAtRow_X0_ended : GoodIn wsX0_endsAtRow (wsV RX0 111 RX0 yX0_ended wsX0_ended) := goodIn_app (goodIn_of _ (by decide +kernel)) ggX0_endsAtRow_X0_ended
theorem dX0_endsAtRow_0 : decode cX0_endsAtRow 0 = .ok (.aload_n 0, 1) := by decide +kernel
theorem dX0_endsAtRow_1 : decode cX0_endsAtRow 1 = .ok (.getfield 21, 3) := by decide +kernel
theorem dX0_endsAtRow_4 : decode cX0_endsAtRow 4 = .ok (.iconst (-1), 1) := by decide +kernel
theorem dX0_endsAtRow_5 : decode cX0_endsAtRow 5 = .ok (.if_icmp .ne 10, 3) := by decide +kernel
theorem dX0_endsAtRow_8 : decode cX0_endsAtRow 8 = .ok (.aload_n 0, 1) := by decide +kernel
theorem dX0_endsAtRow_9 : decode cX0_endsAtRow 9 = .ok (.ldc 115, 2) := by decide +kernel
theorem dX0_endsAtRow_11 : decode cX0_endsAtRow 11 = .ok (.invokevirtual 111, 3) := by decide +kernel
theorem dX0_endsAtRow_14 : decode cX0_endsAtRow 14 = .ok (.ireturn, 1) := by decide +kernel
theorem dX0_endsAtRow_15 : decode cX0_endsAtRow 15 = .ok (.iload_n 1, 1) := by decide +kernel
theorem dX0_endsAtRow_16 : decode cX0_endsAtRow 16 = .ok (.ifCond .lt 11, 3) := by decide +kernel
theorem dX0_endsAtRow_19 : decode cX0_endsAtRow 19 = .ok (.iload_n 1, 1) := by decide +kernel
theorem dX0_endsAtRow_20 : decode cX0_endsAtRow 20 = .ok (.aload_n 0, 1) := by decide +kernel
theorem dX0_endsAtRow_21 : decode cX0_endsAtRow 21 = .ok (.getfield 21, 3) := by decide +kernel
theorem dX0_endsAtRow_24 : decode cX0_endsAtRow 24 = .ok (.if_icmp .lt 10, 3) := by decide +kernel
theorem dX0_endsAtRow_27 : decode cX0_endsAtRow 27 = .ok (.aload_n 0, 1) := by decide +kernel
theorem dX0_endsAtRow_28 : decode cX0_endsAtRow 28 = .ok (.ldc 116, 2) := by decide +kernel
theorem dX0_endsAtRow_30 : decode cX0_endsAtRow 30 = .ok (.invokevirtual 111, 3) := by decide +kernel
theorem dX0_endsAtRow_33 : decode cX0_endsAtRow 33 = .ok (.ireturn, 1) := by decide +kernel
theorem dX0_endsAtRow_34 : decode cX0_endsAtRow 34 = .ok (.iconst 0, 1) := by decide +kernel
theorem dX0_endsAtRow_35 : decode cX0_endsAtRow 35 = .ok (.ireturn, 1) := by decide +kernel
set_option maxRecDepth 20000 in
theorem ggX0_endsAtPlace_X0_endsAtRow : GoodIn wsX0_endsAtPlace wsX0_endsAtRow := goodIn_r _ [7, 8, 9, 10, 11, 12, 13, 6, 14, 15, 16, 17, 18, 19, 20, 21, 22, 23, 24, 25, 26] (by decide +kernel) (by decide +kernel)
set_option maxRecDepth 20000 in
theorem gX0_endsAtPlace_X0_endsAtRow : GoodIn wsX0_endsAtPlace (wsV RX0 103 RX0 yX0_endsAtRow wsX0_endsAtRow) := goodIn_app (goodIn_of _ (by decide +kernel)) ggX0_endsAtPlace_X0_endsAtRow
set_option maxRecDepth 20000 in
theorem ggX0_endsAtPlace_X0_ended : GoodIn wsX0_endsAtPlace wsX0_ended := goodIn_r _ [14, 15, 16, 17, 18, 19, 20, 21, 22, 23, 24, 25, 26] (by decide +kernel) (by decide +kernel)
set_option maxRecDepth 20000 in
theorem gX0_endsAtPlace_X0_ended : GoodIn wsX0_endsAtPlace (wsV RX0 111 RX0 yX0_ended wsX0_ended) := goodIn_app (goodIn_of _ (by decide +kernel)) ggX0_endsAtPlace_X0_ended
theorem dX0_endsAtPlace_0 : decode cX0_endsAtPlace 0 = .ok (.aload_n 0, 1) := by decide +kernel
theorem dX0_endsAtPlace_1 : decode cX0_endsAtPlace 1 = .ok (.iload_n 1, 1) := by decide +kernel
theorem dX0_endsAtPlace_2 : decode cX0_endsAtPlace 2 = .ok (.invokevirtual 103, 3) := by decide +kernel
theorem dX0_endsAtPlace_5 : decode cX0_endsAtPlace 5 = .ok (.ifCond .eq 5, 3) := by decide +kernel
theorem dX0_endsAtPlace_8 : decode cX0_endsAtPlace 8 = .ok (.iconst 1, 1) := by decide +kernel
theorem dX0_endsAtPlace_9 : decode cX0_endsAtPlace 9 = .ok (.ireturn, 1) := by decide +kernel
theorem dX0_endsAtPlace_10 : decode cX0_endsAtPlace 10 = .ok (.iload_n 2, 1) := by decide +kernel
theorem dX0_endsAtPlace_11 : decode cX0_endsAtPlace 11 = .ok (.ifCond .lt 11, 3) := by decide +kernel
theorem dX0_endsAtPlace_14 : decode cX0_endsAtPlace 14 = .ok (.iload_n 2, 1) := by decide +kernel
theorem dX0_endsAtPlace_15 : decode cX0_endsAtPlace 15 = .ok (.aload_n 0, 1) := by decide +kernel
theorem dX0_endsAtPlace_16 : decode cX0_endsAtPlace 16 = .ok (.getfield 25, 3) := by decide +kernel
theorem dX0_endsAtPlace_19 : decode cX0_endsAtPlace 19 = .ok (.if_icmp .lt 10, 3) := by decide +kernel
theorem dX0_endsAtPlace_22 : decode cX0_endsAtPlace 22 = .ok (.aload_n 0, 1) := by decide +kernel
theorem dX0_endsAtPlace_23 : decode cX0_endsAtPlace 23 = .ok (.ldc 117, 2) := by decide +kernel
theorem dX0_endsAtPlace_25 : decode cX0_endsAtPlace 25 = .ok (.invokevirtual 111, 3) := by decide +kernel
theorem dX0_endsAtPlace_28 : decode cX0_endsAtPlace 28 = .ok (.ireturn, 1) := by decide +kernel
theorem dX0_endsAtPlace_29 : decode cX0_endsAtPlace 29 = .ok (.iconst 0, 1) := by decide +kernel
theorem dX0_endsAtPlace_30 : decode cX0_endsAtPlace 30 = .ok (.ireturn, 1) := by decide +kernel
set_option maxRecDepth 20000 in
theorem ggX0_endsAtArrival_X0_endsAtLine : GoodIn wsX0_endsAtArrival wsX0_endsAtLine := goodIn_r _ [6, 7, 8, 9, 10, 11, 5, 12, 13, 14, 15, 16, 17, 18, 19, 40, 41, 42, 43, 44, 45, 46, 47, 48, 49] (by decide +kernel) (by decide +kernel)
set_option maxRecDepth 20000 in
theorem gX0_endsAtArrival_X0_endsAtLine : GoodIn wsX0_endsAtArrival (wsV RX0 61 RX0 yX0_endsAtLine wsX0_endsAtLine) := goodIn_app (goodIn_of _ (by decide +kernel)) ggX0_endsAtArrival_X0_endsAtLine
set_option maxRecDepth 20000 in
theorem ggX0_endsAtArrival_X0_put : GoodIn wsX0_endsAtArrival wsX0_put := goodIn_r _ [23, 1, 24, 25, 5, 26, 27, 28, 29, 30, 31, 32, 33, 34, 35, 36, 37, 38, 39, 40, 41, 42, 43, 44, 45, 46, 47, 48, 49] (by decide +kernel) (by decide +kernel)
set_option maxRecDepth 20000 in
theorem gX0_endsAtArrival_X0_put : GoodIn wsX0_endsAtArrival (wsV RX0 68 RX0 yX0_put wsX0_put) := goodIn_app (goodIn_of _ (by decide +kernel)) ggX0_endsAtArrival_X0_put
theorem dX0_endsAtArrival_0 : decode cX0_endsAtArrival 0 = .ok (.aload_n 0, 1) := by decide +kernel
theorem dX0_endsAtArrival_1 : decode cX0_endsAtArrival 1 = .ok (.iconst 2, 1) := by decide +kernel
theorem dX0_endsAtArrival_2 : decode cX0_endsAtArrival 2 = .ok (.iload_n 1, 1) := by decide +kernel
theorem dX0_endsAtArrival_3 : decode cX0_endsAtArrival 3 = .ok (.invokevirtual 61, 3) := by decide +kernel
theorem dX0_endsAtArrival_6 : decode cX0_endsAtArrival 6 = .ok (.ifCond .eq 5, 3) := by decide +kernel
theorem dX0_endsAtArrival_9 : decode cX0_endsAtArrival 9 = .ok (.iconst 1, 1) := by decide +kernel
theorem dX0_endsAtArrival_10 : decode cX0_endsAtArrival 10 = .ok (.ireturn, 1) := by decide +kernel
theorem dX0_endsAtArrival_11 : decode cX0_endsAtArrival 11 = .ok (.aload_n 0, 1) := by decide +kernel
theorem dX0_endsAtArrival_12 : decode cX0_endsAtArrival 12 = .ok (.iconst 2, 1) := by decide +kernel
theorem dX0_endsAtArrival_13 : decode cX0_endsAtArrival 13 = .ok (.iload_n 1, 1) := by decide +kernel
theorem dX0_endsAtArrival_14 : decode cX0_endsAtArrival 14 = .ok (.iload_n 3, 1) := by decide +kernel
theorem dX0_endsAtArrival_15 : decode cX0_endsAtArrival 15 = .ok (.invokevirtual 68, 3) := by decide +kernel
theorem dX0_endsAtArrival_18 : decode cX0_endsAtArrival 18 = .ok (.aload_n 0, 1) := by decide +kernel
theorem dX0_endsAtArrival_19 : decode cX0_endsAtArrival 19 = .ok (.iconst 0, 1) := by decide +kernel
theorem dX0_endsAtArrival_20 : decode cX0_endsAtArrival 20 = .ok (.iload_n 1, 1) := by decide +kernel
theorem dX0_endsAtArrival_21 : decode cX0_endsAtArrival 21 = .ok (.invokevirtual 61, 3) := by decide +kernel
theorem dX0_endsAtArrival_24 : decode cX0_endsAtArrival 24 = .ok (.ifCond .eq 5, 3) := by decide +kernel
theorem dX0_endsAtArrival_27 : decode cX0_endsAtArrival 27 = .ok (.iconst 1, 1) := by decide +kernel
theorem dX0_endsAtArrival_28 : decode cX0_endsAtArrival 28 = .ok (.ireturn, 1) := by decide +kernel
theorem dX0_endsAtArrival_29 : decode cX0_endsAtArrival 29 = .ok (.aload_n 0, 1) := by decide +kernel
theorem dX0_endsAtArrival_30 : decode cX0_endsAtArrival 30 = .ok (.iconst 0, 1) := by decide +kernel
theorem dX0_endsAtArrival_31 : decode cX0_endsAtArrival 31 = .ok (.iload_n 1, 1) := by decide +kernel
theorem dX0_endsAtArrival_32 : decode cX0_endsAtArrival 32 = .ok (.iload_n 2, 1) := by decide +kernel
theorem dX0_endsAtArrival_33 : decode cX0_endsAtArrival 33 = .ok (.invokevirtual 68, 3) := by decide +kernel
theorem dX0_endsAtArrival_36 : decode cX0_endsAtArrival 36 = .ok (.aload_n 0, 1) := by decide +kernel
theorem dX0_endsAtArrival_37 : decode cX0_endsAtArrival 37 = .ok (.iconst 4, 1) := by decide +kernel
theorem dX0_endsAtArrival_38 : decode cX0_endsAtArrival 38 = .ok (.iload_n 1, 1) := by decide +kernel
theorem dX0_endsAtArrival_39 : decode cX0_endsAtArrival 39 = .ok (.invokevirtual 61, 3) := by decide +kernel
theorem dX0_endsAtArrival_42 : decode cX0_endsAtArrival 42 = .ok (.ifCond .eq 5, 3) := by decide +kernel
theorem dX0_endsAtArrival_45 : decode cX0_endsAtArrival 45 = .ok (.iconst 1, 1) := by decide +kernel
theorem dX0_endsAtArrival_46 : decode cX0_endsAtArrival 46 = .ok (.ireturn, 1) := by decide +kernel
theorem dX0_endsAtArrival_47 : decode cX0_endsAtArrival 47 = .ok (.aload_n 0, 1) := by decide +kernel
theorem dX0_endsAtArrival_48 : decode cX0_endsAtArrival 48 = .ok (.iconst 4, 1) := by decide +kernel
theorem dX0_endsAtArrival_49 : decode cX0_endsAtArrival 49 = .ok (.iload_n 1, 1) := by decide +kernel
theorem dX0_endsAtArrival_50 : decode cX0_endsAtArrival 50 = .ok (.aload_n 0, 1) := by decide +kernel
theorem dX0_endsAtArrival_51 : decode cX0_endsAtArrival 51 = .ok (.getfield 15, 3) := by decide +kernel
theorem dX0_endsAtArrival_54 : decode cX0_endsAtArrival 54 = .ok (.iconst 4, 1) := by decide +kernel
theorem dX0_endsAtArrival_55 : decode cX0_endsAtArrival 55 = .ok (.aaload, 1) := by decide +kernel
theorem dX0_endsAtArrival_56 : decode cX0_endsAtArrival 56 = .ok (.iload_n 1, 1) := by decide +kernel
theorem dX0_endsAtArrival_57 : decode cX0_endsAtArrival 57 = .ok (.iaload, 1) := by decide +kernel
theorem dX0_endsAtArrival_58 : decode cX0_endsAtArrival 58 = .ok (.iconst 1, 1) := by decide +kernel
theorem dX0_endsAtArrival_59 : decode cX0_endsAtArrival 59 = .ok (.iadd, 1) := by decide +kernel
theorem dX0_endsAtArrival_60 : decode cX0_endsAtArrival 60 = .ok (.invokevirtual 68, 3) := by decide +kernel
theorem dX0_endsAtArrival_63 : decode cX0_endsAtArrival 63 = .ok (.iconst 0, 1) := by decide +kernel
theorem dX0_endsAtArrival_64 : decode cX0_endsAtArrival 64 = .ok (.ireturn, 1) := by decide +kernel
theorem dX0_ended_0 : decode cX0_ended 0 = .ok (.aload_n 0, 1) := by decide +kernel
theorem dX0_ended_1 : decode cX0_ended 1 = .ok (.dup, 1) := by decide +kernel
theorem dX0_ended_2 : decode cX0_ended 2 = .ok (.getfield 34, 3) := by decide +kernel
theorem dX0_ended_5 : decode cX0_ended 5 = .ok (.iconst 1, 1) := by decide +kernel
theorem dX0_ended_6 : decode cX0_ended 6 = .ok (.iadd, 1) := by decide +kernel
theorem dX0_ended_7 : decode cX0_ended 7 = .ok (.putfield 34, 3) := by decide +kernel
theorem dX0_ended_10 : decode cX0_ended 10 = .ok (.aload_n 0, 1) := by decide +kernel
theorem dX0_ended_11 : decode cX0_ended 11 = .ok (.iload_n 1, 1) := by decide +kernel
theorem dX0_ended_12 : decode cX0_ended 12 = .ok (.putfield 37, 3) := by decide +kernel
theorem dX0_ended_15 : decode cX0_ended 15 = .ok (.iconst 1, 1) := by decide +kernel
theorem dX0_ended_16 : decode cX0_ended 16 = .ok (.ireturn, 1) := by decide +kernel
set_option maxRecDepth 20000 in
theorem ggX0_put_X0_cut : GoodIn wsX0_put wsX0_cut := goodIn_r _ [5, 6, 7, 8, 9, 10, 4, 11, 12, 13, 14, 15, 16, 17, 18] (by decide +kernel) (by decide +kernel)
set_option maxRecDepth 20000 in
theorem gX0_put_X0_cut : GoodIn wsX0_put (va_wsS RX0 86 yX0_cut wsX0_cut) := goodIn_app (goodIn_of _ (by decide +kernel)) ggX0_put_X0_cut
theorem dX0_put_0 : decode cX0_put 0 = .ok (.aload_n 0, 1) := by decide +kernel
theorem dX0_put_1 : decode cX0_put 1 = .ok (.getfield 15, 3) := by decide +kernel
theorem dX0_put_4 : decode cX0_put 4 = .ok (.iload_n 1, 1) := by decide +kernel
theorem dX0_put_5 : decode cX0_put 5 = .ok (.aaload, 1) := by decide +kernel
theorem dX0_put_6 : decode cX0_put 6 = .ok (.iload_n 2, 1) := by decide +kernel
theorem dX0_put_7 : decode cX0_put 7 = .ok (.iload_n 1, 1) := by decide +kernel
theorem dX0_put_8 : decode cX0_put 8 = .ok (.iload_n 3, 1) := by decide +kernel
theorem dX0_put_9 : decode cX0_put 9 = .ok (.invokestatic 86, 3) := by decide +kernel
theorem dX0_put_12 : decode cX0_put 12 = .ok (.iastore, 1) := by decide +kernel
theorem dX0_put_13 : decode cX0_put 13 = .ok (.return_, 1) := by decide +kernel
set_option maxRecDepth 20000 in
theorem ggX0_cut_X0_nearest : GoodIn wsX0_cut wsX0_nearest := goodIn_r _ [7, 8, 9, 10, 11, 12, 13, 14] (by decide +kernel) (by decide +kernel)
set_option maxRecDepth 20000 in
theorem gX0_cut_X0_nearest : GoodIn wsX0_cut (va_wsS RX0 40 yX0_nearest wsX0_nearest) := goodIn_app (goodIn_of _ (by decide +kernel)) ggX0_cut_X0_nearest
theorem dX0_cut_0 : decode cX0_cut 0 = .ok (.iload_n 0, 1) := by decide +kernel
theorem dX0_cut_1 : decode cX0_cut 1 = .ok (.tableswitch 52 0 3 #[31, 36, 39, 48], 31) := by decide +kernel
theorem dX0_cut_32 : decode cX0_cut 32 = .ok (.iload_n 1, 1) := by decide +kernel
theorem dX0_cut_33 : decode cX0_cut 33 = .ok (.ldc 118, 2) := by decide +kernel
theorem dX0_cut_35 : decode cX0_cut 35 = .ok (.iand, 1) := by decide +kernel
theorem dX0_cut_36 : decode cX0_cut 36 = .ok (.ireturn, 1) := by decide +kernel
theorem dX0_cut_37 : decode cX0_cut 37 = .ok (.iload_n 1, 1) := by decide +kernel
theorem dX0_cut_38 : decode cX0_cut 38 = .ok (.i2s, 1) := by decide +kernel
theorem dX0_cut_39 : decode cX0_cut 39 = .ok (.ireturn, 1) := by decide +kernel
theorem dX0_cut_40 : decode cX0_cut 40 = .ok (.iload_n 1, 1) := by decide +kernel
theorem dX0_cut_41 : decode cX0_cut 41 = .ok (.ldc 119, 2) := by decide +kernel
theorem dX0_cut_43 : decode cX0_cut 43 = .ok (.ldc 120, 2) := by decide +kernel
theorem dX0_cut_45 : decode cX0_cut 45 = .ok (.invokestatic 40, 3) := by decide +kernel
theorem dX0_cut_48 : decode cX0_cut 48 = .ok (.ireturn, 1) := by decide +kernel
theorem dX0_cut_49 : decode cX0_cut 49 = .ok (.iload_n 1, 1) := by decide +kernel
theorem dX0_cut_50 : decode cX0_cut 50 = .ok (.iconst 1, 1) := by decide +kernel
theorem dX0_cut_51 : decode cX0_cut 51 = .ok (.iand, 1) := by decide +kernel
theorem dX0_cut_52 : decode cX0_cut 52 = .ok (.ireturn, 1) := by decide +kernel
theorem dX0_cut_53 : decode cX0_cut 53 = .ok (.iload_n 1, 1) := by decide +kernel
theorem dX0_cut_54 : decode cX0_cut 54 = .ok (.i2b, 1) := by decide +kernel
theorem dX0_cut_55 : decode cX0_cut 55 = .ok (.ireturn, 1) := by decide +kernel
theorem dX0_nearest_0 : decode cX0_nearest 0 = .ok (.iload_n 1, 1) := by decide +kernel
theorem dX0_nearest_1 : decode cX0_nearest 1 = .ok (.iload_n 2, 1) := by decide +kernel
theorem dX0_nearest_2 : decode cX0_nearest 2 = .ok (.iload_n 0, 1) := by decide +kernel
theorem dX0_nearest_3 : decode cX0_nearest 3 = .ok (.invokestatic 121, 3) := by decide +kernel
theorem dX0_nearest_6 : decode cX0_nearest 6 = .ok (.invokestatic 126, 3) := by decide +kernel
theorem dX0_nearest_9 : decode cX0_nearest 9 = .ok (.ireturn, 1) := by decide +kernel
set_option maxRecDepth 20000 in
theorem ggX0_told_X0_nearest : GoodIn wsX0_told wsX0_nearest := goodIn_r _ [4, 5, 6, 7, 8, 9, 10, 11] (by decide +kernel) (by decide +kernel)
set_option maxRecDepth 20000 in
theorem gX0_told_X0_nearest : GoodIn wsX0_told (va_wsS RX0 40 yX0_nearest wsX0_nearest) := goodIn_app (goodIn_of _ (by decide +kernel)) ggX0_told_X0_nearest
theorem dX0_told_0 : decode cX0_told 0 = .ok (.iload_n 0, 1) := by decide +kernel
theorem dX0_told_1 : decode cX0_told 1 = .ok (.iconst 2, 1) := by decide +kernel
theorem dX0_told_2 : decode cX0_told 2 = .ok (.if_icmp .ne 16, 3) := by decide +kernel
theorem dX0_told_5 : decode cX0_told 5 = .ok (.iload_n 1, 1) := by decide +kernel
theorem dX0_told_6 : decode cX0_told 6 = .ok (.sipush (-16000), 3) := by decide +kernel
theorem dX0_told_9 : decode cX0_told 9 = .ok (.sipush 16000, 3) := by decide +kernel
theorem dX0_told_12 : decode cX0_told 12 = .ok (.invokestatic 40, 3) := by decide +kernel
theorem dX0_told_15 : decode cX0_told 15 = .ok (.goto 4, 3) := by decide +kernel
theorem dX0_told_18 : decode cX0_told 18 = .ok (.iload_n 1, 1) := by decide +kernel
theorem dX0_told_19 : decode cX0_told 19 = .ok (.ireturn, 1) := by decide +kernel
set_option maxRecDepth 20000 in
theorem ggX0_changed_X0_changedGate : GoodIn wsX0_changed wsX0_changedGate := goodIn_r _ [4] (by decide +kernel) (by decide +kernel)
set_option maxRecDepth 20000 in
theorem gX0_changed_X0_changedGate : GoodIn wsX0_changed (va_wsS RX0 129 yX0_changedGate wsX0_changedGate) := goodIn_app (goodIn_of _ (by decide +kernel)) ggX0_changed_X0_changedGate
theorem dX0_changed_0 : decode cX0_changed 0 = .ok (.iload_n 0, 1) := by decide +kernel
theorem dX0_changed_1 : decode cX0_changed 1 = .ok (.iconst 3, 1) := by decide +kernel
theorem dX0_changed_2 : decode cX0_changed 2 = .ok (.if_icmp .ne 10, 3) := by decide +kernel
theorem dX0_changed_5 : decode cX0_changed 5 = .ok (.iload_n 1, 1) := by decide +kernel
theorem dX0_changed_6 : decode cX0_changed 6 = .ok (.iload_n 2, 1) := by decide +kernel
theorem dX0_changed_7 : decode cX0_changed 7 = .ok (.iload_n 3, 1) := by decide +kernel
theorem dX0_changed_8 : decode cX0_changed 8 = .ok (.invokestatic 129, 3) := by decide +kernel
theorem dX0_changed_11 : decode cX0_changed 11 = .ok (.ireturn, 1) := by decide +kernel
theorem dX0_changed_12 : decode cX0_changed 12 = .ok (.iload_n 0, 1) := by decide +kernel
theorem dX0_changed_13 : decode cX0_changed 13 = .ok (.iconst 2, 1) := by decide +kernel
theorem dX0_changed_14 : decode cX0_changed 14 = .ok (.if_icmp .ne 8, 3) := by decide +kernel
theorem dX0_changed_17 : decode cX0_changed 17 = .ok (.bipush 8, 2) := by decide +kernel
theorem dX0_changed_19 : decode cX0_changed 19 = .ok (.goto 4, 3) := by decide +kernel
theorem dX0_changed_22 : decode cX0_changed 22 = .ok (.iconst 1, 1) := by decide +kernel
theorem dX0_changed_23 : decode cX0_changed 23 = .ok (.istore 4, 2) := by decide +kernel
theorem dX0_changed_25 : decode cX0_changed 25 = .ok (.iload_n 2, 1) := by decide +kernel
theorem dX0_changed_26 : decode cX0_changed 26 = .ok (.tableswitch 39 0 2 #[26, 30, 34], 26) := by decide +kernel
theorem dX0_changed_52 : decode cX0_changed 52 = .ok (.iload_n 1, 1) := by decide +kernel
theorem dX0_changed_53 : decode cX0_changed 53 = .ok (.iload_n 3, 1) := by decide +kernel
theorem dX0_changed_54 : decode cX0_changed 54 = .ok (.iadd, 1) := by decide +kernel
theorem dX0_changed_55 : decode cX0_changed 55 = .ok (.ireturn, 1) := by decide +kernel
theorem dX0_changed_56 : decode cX0_changed 56 = .ok (.iload_n 1, 1) := by decide +kernel
theorem dX0_changed_57 : decode cX0_changed 57 = .ok (.iload_n 3, 1) := by decide +kernel
theorem dX0_changed_58 : decode cX0_changed 58 = .ok (.isub, 1) := by decide +kernel
theorem dX0_changed_59 : decode cX0_changed 59 = .ok (.ireturn, 1) := by decide +kernel
theorem dX0_changed_60 : decode cX0_changed 60 = .ok (.iload_n 1, 1) := by decide +kernel
theorem dX0_changed_61 : decode cX0_changed 61 = .ok (.iload 4, 2) := by decide +kernel
theorem dX0_changed_63 : decode cX0_changed 63 = .ok (.iadd, 1) := by decide +kernel
theorem dX0_changed_64 : decode cX0_changed 64 = .ok (.ireturn, 1) := by decide +kernel
theorem dX0_changed_65 : decode cX0_changed 65 = .ok (.iload_n 1, 1) := by decide +kernel
theorem dX0_changed_66 : decode cX0_changed 66 = .ok (.iload 4, 2) := by decide +kernel
theorem dX0_changed_68 : decode cX0_changed 68 = .ok (.isub, 1) := by decide +kernel
theorem dX0_changed_69 : decode cX0_changed 69 = .ok (.ireturn, 1) := by decide +kernel
theorem dX0_changedGate_0 : decode cX0_changedGate 0 = .ok (.iload_n 1, 1) := by decide +kernel
theorem dX0_changedGate_1 : decode cX0_changedGate 1 = .ok (.tableswitch 39 0 2 #[27, 31, 35], 27) := by decide +kernel
theorem dX0_changedGate_28 : decode cX0_changedGate 28 = .ok (.iload_n 0, 1) := by decide +kernel
theorem dX0_changedGate_29 : decode cX0_changedGate 29 = .ok (.iload_n 2, 1) := by decide +kernel
theorem dX0_changedGate_30 : decode cX0_changedGate 30 = .ok (.ior, 1) := by decide +kernel
theorem dX0_changedGate_31 : decode cX0_changedGate 31 = .ok (.ireturn, 1) := by decide +kernel
theorem dX0_changedGate_32 : decode cX0_changedGate 32 = .ok (.iload_n 0, 1) := by decide +kernel
theorem dX0_changedGate_33 : decode cX0_changedGate 33 = .ok (.iload_n 2, 1) := by decide +kernel
theorem dX0_changedGate_34 : decode cX0_changedGate 34 = .ok (.iand, 1) := by decide +kernel
theorem dX0_changedGate_35 : decode cX0_changedGate 35 = .ok (.ireturn, 1) := by decide +kernel
theorem dX0_changedGate_36 : decode cX0_changedGate 36 = .ok (.iload_n 0, 1) := by decide +kernel
theorem dX0_changedGate_37 : decode cX0_changedGate 37 = .ok (.iconst 1, 1) := by decide +kernel
theorem dX0_changedGate_38 : decode cX0_changedGate 38 = .ok (.ixor, 1) := by decide +kernel
theorem dX0_changedGate_39 : decode cX0_changedGate 39 = .ok (.ireturn, 1) := by decide +kernel
theorem dX0_changedGate_40 : decode cX0_changedGate 40 = .ok (.iload_n 0, 1) := by decide +kernel
theorem dX0_changedGate_41 : decode cX0_changedGate 41 = .ok (.iload_n 2, 1) := by decide +kernel
theorem dX0_changedGate_42 : decode cX0_changedGate 42 = .ok (.ixor, 1) := by decide +kernel
theorem dX0_changedGate_43 : decode cX0_changedGate 43 = .ok (.ireturn, 1) := by decide +kernel
set_option maxRecDepth 20000 in
theorem ggX0_goOut_X0_endsAtLine : GoodIn wsX0_goOut wsX0_endsAtLine := goodIn_r _ [9, 10, 11, 12, 13, 14, 8, 15, 16, 17, 18, 19, 20, 21, 1, 46, 47, 48, 49, 50, 51, 52, 53, 54, 55] (by decide +kernel) (by decide +kernel)
