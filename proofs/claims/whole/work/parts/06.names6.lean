theorem dX1_pass_97 : decode cX1_pass 97 = .ok (.aload_n 0, 1) := by decide +kernel
theorem dX1_pass_98 : decode cX1_pass 98 = .ok (.getfield 78, 3) := by decide +kernel
theorem dX1_pass_101 : decode cX1_pass 101 = .ok (.iload 4, 2) := by decide +kernel
theorem dX1_pass_103 : decode cX1_pass 103 = .ok (.iadd, 1) := by decide +kernel
theorem dX1_pass_104 : decode cX1_pass 104 = .ok (.putfield 78, 3) := by decide +kernel
theorem dX1_pass_107 : decode cX1_pass 107 = .ok (.goto 36, 3) := by decide +kernel
theorem dX1_pass_110 : decode cX1_pass 110 = .ok (.aload_n 0, 1) := by decide +kernel
theorem dX1_pass_111 : decode cX1_pass 111 = .ok (.iconst 0, 1) := by decide +kernel
theorem dX1_pass_112 : decode cX1_pass 112 = .ok (.iload_n 1, 1) := by decide +kernel
theorem dX1_pass_113 : decode cX1_pass 113 = .ok (.iconst 1, 1) := by decide +kernel
theorem dX1_pass_114 : decode cX1_pass 114 = .ok (.iadd, 1) := by decide +kernel
theorem dX1_pass_115 : decode cX1_pass 115 = .ok (.invokevirtual 55, 3) := by decide +kernel
theorem dX1_pass_118 : decode cX1_pass 118 = .ok (.istore 5, 2) := by decide +kernel
theorem dX1_pass_120 : decode cX1_pass 120 = .ok (.aload_n 0, 1) := by decide +kernel
theorem dX1_pass_121 : decode cX1_pass 121 = .ok (.getfield 23, 3) := by decide +kernel
theorem dX1_pass_124 : decode cX1_pass 124 = .ok (.ifCond .ne 11, 3) := by decide +kernel
theorem dX1_pass_127 : decode cX1_pass 127 = .ok (.iload 5, 2) := by decide +kernel
theorem dX1_pass_129 : decode cX1_pass 129 = .ok (.ifCond .eq 6, 3) := by decide +kernel
theorem dX1_pass_132 : decode cX1_pass 132 = .ok (.bipush (-4), 2) := by decide +kernel
theorem dX1_pass_134 : decode cX1_pass 134 = .ok (.ireturn, 1) := by decide +kernel
theorem dX1_pass_135 : decode cX1_pass 135 = .ok (.aload_n 0, 1) := by decide +kernel
theorem dX1_pass_136 : decode cX1_pass 136 = .ok (.iload_n 1, 1) := by decide +kernel
theorem dX1_pass_137 : decode cX1_pass 137 = .ok (.iload_n 3, 1) := by decide +kernel
theorem dX1_pass_138 : decode cX1_pass 138 = .ok (.invokevirtual 81, 3) := by decide +kernel
theorem dX1_pass_141 : decode cX1_pass 141 = .ok (.istore 4, 2) := by decide +kernel
theorem dX1_pass_143 : decode cX1_pass 143 = .ok (.aload_n 0, 1) := by decide +kernel
theorem dX1_pass_144 : decode cX1_pass 144 = .ok (.iconst 2, 1) := by decide +kernel
theorem dX1_pass_145 : decode cX1_pass 145 = .ok (.iload_n 1, 1) := by decide +kernel
theorem dX1_pass_146 : decode cX1_pass 146 = .ok (.iconst 0, 1) := by decide +kernel
theorem dX1_pass_147 : decode cX1_pass 147 = .ok (.invokevirtual 61, 3) := by decide +kernel
theorem dX1_pass_150 : decode cX1_pass 150 = .ok (.aload_n 0, 1) := by decide +kernel
theorem dX1_pass_151 : decode cX1_pass 151 = .ok (.iconst 0, 1) := by decide +kernel
theorem dX1_pass_152 : decode cX1_pass 152 = .ok (.iload_n 1, 1) := by decide +kernel
theorem dX1_pass_153 : decode cX1_pass 153 = .ok (.iconst 0, 1) := by decide +kernel
theorem dX1_pass_154 : decode cX1_pass 154 = .ok (.invokevirtual 61, 3) := by decide +kernel
theorem dX1_pass_157 : decode cX1_pass 157 = .ok (.aload_n 0, 1) := by decide +kernel
theorem dX1_pass_158 : decode cX1_pass 158 = .ok (.iload 4, 2) := by decide +kernel
theorem dX1_pass_160 : decode cX1_pass 160 = .ok (.invokevirtual 51, 3) := by decide +kernel
theorem dX1_pass_163 : decode cX1_pass 163 = .ok (.ireturn, 1) := by decide +kernel
theorem dX1_survey_0 : decode cX1_survey 0 = .ok (.iload_n 1, 1) := by decide +kernel
theorem dX1_survey_1 : decode cX1_survey 1 = .ok (.bipush 24, 2) := by decide +kernel
theorem dX1_survey_3 : decode cX1_survey 3 = .ok (.if_icmp .gt 9, 3) := by decide +kernel
theorem dX1_survey_6 : decode cX1_survey 6 = .ok (.iload_n 2, 1) := by decide +kernel
theorem dX1_survey_7 : decode cX1_survey 7 = .ok (.bipush 24, 2) := by decide +kernel
theorem dX1_survey_9 : decode cX1_survey 9 = .ok (.if_icmp .le 6, 3) := by decide +kernel
theorem dX1_survey_12 : decode cX1_survey 12 = .ok (.bipush (-2), 2) := by decide +kernel
theorem dX1_survey_14 : decode cX1_survey 14 = .ok (.ireturn, 1) := by decide +kernel
theorem dX1_survey_15 : decode cX1_survey 15 = .ok (.iload_n 1, 1) := by decide +kernel
theorem dX1_survey_16 : decode cX1_survey 16 = .ok (.ifCond .lt 7, 3) := by decide +kernel
theorem dX1_survey_19 : decode cX1_survey 19 = .ok (.iload_n 2, 1) := by decide +kernel
theorem dX1_survey_20 : decode cX1_survey 20 = .ok (.ifCond .ge 6, 3) := by decide +kernel
theorem dX1_survey_23 : decode cX1_survey 23 = .ok (.bipush (-3), 2) := by decide +kernel
theorem dX1_survey_25 : decode cX1_survey 25 = .ok (.ireturn, 1) := by decide +kernel
theorem dX1_survey_26 : decode cX1_survey 26 = .ok (.aload_n 0, 1) := by decide +kernel
theorem dX1_survey_27 : decode cX1_survey 27 = .ok (.iconst 1, 1) := by decide +kernel
theorem dX1_survey_28 : decode cX1_survey 28 = .ok (.putfield 84, 3) := by decide +kernel
theorem dX1_survey_31 : decode cX1_survey 31 = .ok (.aload_n 0, 1) := by decide +kernel
theorem dX1_survey_32 : decode cX1_survey 32 = .ok (.iload_n 1, 1) := by decide +kernel
theorem dX1_survey_33 : decode cX1_survey 33 = .ok (.putfield 88, 3) := by decide +kernel
theorem dX1_survey_36 : decode cX1_survey 36 = .ok (.aload_n 0, 1) := by decide +kernel
theorem dX1_survey_37 : decode cX1_survey 37 = .ok (.iload_n 2, 1) := by decide +kernel
theorem dX1_survey_38 : decode cX1_survey 38 = .ok (.putfield 91, 3) := by decide +kernel
theorem dX1_survey_41 : decode cX1_survey 41 = .ok (.iconst 0, 1) := by decide +kernel
theorem dX1_survey_42 : decode cX1_survey 42 = .ok (.istore_n 3, 1) := by decide +kernel
theorem dX1_survey_43 : decode cX1_survey 43 = .ok (.iload_n 3, 1) := by decide +kernel
theorem dX1_survey_44 : decode cX1_survey 44 = .ok (.sipush 576, 3) := by decide +kernel
theorem dX1_survey_47 : decode cX1_survey 47 = .ok (.if_icmp .ge 16, 3) := by decide +kernel
theorem dX1_survey_50 : decode cX1_survey 50 = .ok (.aload_n 0, 1) := by decide +kernel
theorem dX1_survey_51 : decode cX1_survey 51 = .ok (.getfield 16, 3) := by decide +kernel
theorem dX1_survey_54 : decode cX1_survey 54 = .ok (.iload_n 3, 1) := by decide +kernel
theorem dX1_survey_55 : decode cX1_survey 55 = .ok (.iconst 0, 1) := by decide +kernel
theorem dX1_survey_56 : decode cX1_survey 56 = .ok (.iastore, 1) := by decide +kernel
theorem dX1_survey_57 : decode cX1_survey 57 = .ok (.iinc 3 1, 3) := by decide +kernel
theorem dX1_survey_60 : decode cX1_survey 60 = .ok (.goto (-17), 3) := by decide +kernel
theorem dX1_survey_63 : decode cX1_survey 63 = .ok (.iconst 0, 1) := by decide +kernel
theorem dX1_survey_64 : decode cX1_survey 64 = .ok (.ireturn, 1) := by decide +kernel
theorem dX1_hasRow_0 : decode cX1_hasRow 0 = .ok (.aload_n 0, 1) := by decide +kernel
theorem dX1_hasRow_1 : decode cX1_hasRow 1 = .ok (.getfield 23, 3) := by decide +kernel
theorem dX1_hasRow_4 : decode cX1_hasRow 4 = .ok (.ifCond .eq 5, 3) := by decide +kernel
theorem dX1_hasRow_7 : decode cX1_hasRow 7 = .ok (.iconst 0, 1) := by decide +kernel
theorem dX1_hasRow_8 : decode cX1_hasRow 8 = .ok (.ireturn, 1) := by decide +kernel
theorem dX1_hasRow_9 : decode cX1_hasRow 9 = .ok (.aload_n 0, 1) := by decide +kernel
theorem dX1_hasRow_10 : decode cX1_hasRow 10 = .ok (.aload_n 0, 1) := by decide +kernel
theorem dX1_hasRow_11 : decode cX1_hasRow 11 = .ok (.getfield 84, 3) := by decide +kernel
theorem dX1_hasRow_14 : decode cX1_hasRow 14 = .ok (.ifCond .ne 8, 3) := by decide +kernel
theorem dX1_hasRow_17 : decode cX1_hasRow 17 = .ok (.ldc 94, 2) := by decide +kernel
theorem dX1_hasRow_19 : decode cX1_hasRow 19 = .ok (.goto 21, 3) := by decide +kernel
theorem dX1_hasRow_22 : decode cX1_hasRow 22 = .ok (.iload_n 1, 1) := by decide +kernel
theorem dX1_hasRow_23 : decode cX1_hasRow 23 = .ok (.ifCond .lt 11, 3) := by decide +kernel
theorem dX1_hasRow_26 : decode cX1_hasRow 26 = .ok (.iload_n 1, 1) := by decide +kernel
theorem dX1_hasRow_27 : decode cX1_hasRow 27 = .ok (.aload_n 0, 1) := by decide +kernel
theorem dX1_hasRow_28 : decode cX1_hasRow 28 = .ok (.getfield 88, 3) := by decide +kernel
theorem dX1_hasRow_31 : decode cX1_hasRow 31 = .ok (.if_icmp .lt 8, 3) := by decide +kernel
theorem dX1_hasRow_34 : decode cX1_hasRow 34 = .ok (.ldc 95, 2) := by decide +kernel
theorem dX1_hasRow_36 : decode cX1_hasRow 36 = .ok (.goto 4, 3) := by decide +kernel
theorem dX1_hasRow_39 : decode cX1_hasRow 39 = .ok (.iconst 0, 1) := by decide +kernel
theorem dX1_hasRow_40 : decode cX1_hasRow 40 = .ok (.putfield 23, 3) := by decide +kernel
theorem dX1_hasRow_43 : decode cX1_hasRow 43 = .ok (.aload_n 0, 1) := by decide +kernel
theorem dX1_hasRow_44 : decode cX1_hasRow 44 = .ok (.getfield 23, 3) := by decide +kernel
theorem dX1_hasRow_47 : decode cX1_hasRow 47 = .ok (.ifCond .ne 7, 3) := by decide +kernel
theorem dX1_hasRow_50 : decode cX1_hasRow 50 = .ok (.iconst 1, 1) := by decide +kernel
theorem dX1_hasRow_51 : decode cX1_hasRow 51 = .ok (.goto 4, 3) := by decide +kernel
theorem dX1_hasRow_54 : decode cX1_hasRow 54 = .ok (.iconst 0, 1) := by decide +kernel
theorem dX1_hasRow_55 : decode cX1_hasRow 55 = .ok (.ireturn, 1) := by decide +kernel
set_option maxRecDepth 20000 in
theorem ggX1_hasPlace_X1_hasRow : GoodIn wsX1_hasPlace wsX1_hasRow := goodIn_r _ [8, 3, 9, 10, 11, 12, 13, 14, 15, 16, 17, 18, 19, 20, 21, 22, 23, 24] (by decide +kernel) (by decide +kernel)
set_option maxRecDepth 20000 in
theorem gX1_hasPlace_X1_hasRow : GoodIn wsX1_hasPlace (wsV RX1 96 RX1 yX1_hasRow wsX1_hasRow) := goodIn_app (goodIn_of _ (by decide +kernel)) ggX1_hasPlace_X1_hasRow
theorem dX1_hasPlace_0 : decode cX1_hasPlace 0 = .ok (.aload_n 0, 1) := by decide +kernel
theorem dX1_hasPlace_1 : decode cX1_hasPlace 1 = .ok (.iload_n 1, 1) := by decide +kernel
theorem dX1_hasPlace_2 : decode cX1_hasPlace 2 = .ok (.invokevirtual 96, 3) := by decide +kernel
theorem dX1_hasPlace_5 : decode cX1_hasPlace 5 = .ok (.ifCond .eq 21, 3) := by decide +kernel
theorem dX1_hasPlace_8 : decode cX1_hasPlace 8 = .ok (.iload_n 2, 1) := by decide +kernel
theorem dX1_hasPlace_9 : decode cX1_hasPlace 9 = .ok (.ifCond .lt 11, 3) := by decide +kernel
theorem dX1_hasPlace_12 : decode cX1_hasPlace 12 = .ok (.iload_n 2, 1) := by decide +kernel
theorem dX1_hasPlace_13 : decode cX1_hasPlace 13 = .ok (.aload_n 0, 1) := by decide +kernel
theorem dX1_hasPlace_14 : decode cX1_hasPlace 14 = .ok (.getfield 91, 3) := by decide +kernel
theorem dX1_hasPlace_17 : decode cX1_hasPlace 17 = .ok (.if_icmp .lt 9, 3) := by decide +kernel
theorem dX1_hasPlace_20 : decode cX1_hasPlace 20 = .ok (.aload_n 0, 1) := by decide +kernel
theorem dX1_hasPlace_21 : decode cX1_hasPlace 21 = .ok (.ldc 99, 2) := by decide +kernel
theorem dX1_hasPlace_23 : decode cX1_hasPlace 23 = .ok (.putfield 23, 3) := by decide +kernel
theorem dX1_hasPlace_26 : decode cX1_hasPlace 26 = .ok (.aload_n 0, 1) := by decide +kernel
theorem dX1_hasPlace_27 : decode cX1_hasPlace 27 = .ok (.getfield 23, 3) := by decide +kernel
theorem dX1_hasPlace_30 : decode cX1_hasPlace 30 = .ok (.ifCond .ne 7, 3) := by decide +kernel
theorem dX1_hasPlace_33 : decode cX1_hasPlace 33 = .ok (.iconst 1, 1) := by decide +kernel
theorem dX1_hasPlace_34 : decode cX1_hasPlace 34 = .ok (.goto 4, 3) := by decide +kernel
theorem dX1_hasPlace_37 : decode cX1_hasPlace 37 = .ok (.iconst 0, 1) := by decide +kernel
theorem dX1_hasPlace_38 : decode cX1_hasPlace 38 = .ok (.ireturn, 1) := by decide +kernel
set_option maxRecDepth 20000 in
theorem ggX1_note_X1_isBook : GoodIn wsX1_note wsX1_isBook := goodIn_r _ [7] (by decide +kernel) (by decide +kernel)
set_option maxRecDepth 20000 in
theorem gX1_note_X1_isBook : GoodIn wsX1_note (va_wsS RX1 46 yX1_isBook wsX1_isBook) := goodIn_app (goodIn_of _ (by decide +kernel)) ggX1_note_X1_isBook
set_option maxRecDepth 20000 in
theorem ggX1_note_X1_cell : GoodIn wsX1_note wsX1_cell := goodIn_r _ [11, 12, 13, 14, 15, 6, 16, 2, 17, 18, 19, 40, 41, 42, 43, 44, 45, 46, 47, 48, 49, 50, 51] (by decide +kernel) (by decide +kernel)
set_option maxRecDepth 20000 in
theorem gX1_note_X1_cell : GoodIn wsX1_note (wsV RX1 55 RX1 yX1_cell wsX1_cell) := goodIn_app (goodIn_of _ (by decide +kernel)) ggX1_note_X1_cell
set_option maxRecDepth 20000 in
theorem ggX1_note_X1_hasPlace : GoodIn wsX1_note wsX1_hasPlace := goodIn_r _ [23, 24, 25, 2, 26, 27, 28, 6, 29, 30, 31, 32, 33, 40, 41, 42, 43, 44, 45, 46, 47, 48, 49, 50, 51] (by decide +kernel) (by decide +kernel)
set_option maxRecDepth 20000 in
theorem gX1_note_X1_hasPlace : GoodIn wsX1_note (wsV RX1 100 RX1 yX1_hasPlace wsX1_hasPlace) := goodIn_app (goodIn_of _ (by decide +kernel)) ggX1_note_X1_hasPlace
set_option maxRecDepth 20000 in
theorem ggX1_note_X1_answer : GoodIn wsX1_note wsX1_answer := goodIn_r _ [37, 2, 38, 39, 40, 41, 42, 43, 44, 45, 46, 47, 48, 49, 50, 51] (by decide +kernel) (by decide +kernel)
set_option maxRecDepth 20000 in
theorem gX1_note_X1_answer : GoodIn wsX1_note (wsV RX1 51 RX1 yX1_answer wsX1_answer) := goodIn_app (goodIn_of _ (by decide +kernel)) ggX1_note_X1_answer
theorem dX1_note_0 : decode cX1_note 0 = .ok (.iload_n 1, 1) := by decide +kernel
theorem dX1_note_1 : decode cX1_note 1 = .ok (.invokestatic 46, 3) := by decide +kernel
theorem dX1_note_4 : decode cX1_note 4 = .ok (.ifCond .ne 6, 3) := by decide +kernel
theorem dX1_note_7 : decode cX1_note 7 = .ok (.ldc 50, 2) := by decide +kernel
theorem dX1_note_9 : decode cX1_note 9 = .ok (.ireturn, 1) := by decide +kernel
theorem dX1_note_10 : decode cX1_note 10 = .ok (.aload_n 0, 1) := by decide +kernel
theorem dX1_note_11 : decode cX1_note 11 = .ok (.iconst 0, 1) := by decide +kernel
theorem dX1_note_12 : decode cX1_note 12 = .ok (.putfield 23, 3) := by decide +kernel
theorem dX1_note_15 : decode cX1_note 15 = .ok (.aload_n 0, 1) := by decide +kernel
theorem dX1_note_16 : decode cX1_note 16 = .ok (.iload_n 1, 1) := by decide +kernel
theorem dX1_note_17 : decode cX1_note 17 = .ok (.iload_n 2, 1) := by decide +kernel
theorem dX1_note_18 : decode cX1_note 18 = .ok (.invokevirtual 55, 3) := by decide +kernel
theorem dX1_note_21 : decode cX1_note 21 = .ok (.istore 5, 2) := by decide +kernel
theorem dX1_note_23 : decode cX1_note 23 = .ok (.aload_n 0, 1) := by decide +kernel
theorem dX1_note_24 : decode cX1_note 24 = .ok (.iload_n 3, 1) := by decide +kernel
theorem dX1_note_25 : decode cX1_note 25 = .ok (.iload 4, 2) := by decide +kernel
theorem dX1_note_27 : decode cX1_note 27 = .ok (.invokevirtual 100, 3) := by decide +kernel
theorem dX1_note_30 : decode cX1_note 30 = .ok (.ifCond .eq 17, 3) := by decide +kernel
theorem dX1_note_33 : decode cX1_note 33 = .ok (.aload_n 0, 1) := by decide +kernel
theorem dX1_note_34 : decode cX1_note 34 = .ok (.getfield 16, 3) := by decide +kernel
theorem dX1_note_37 : decode cX1_note 37 = .ok (.bipush 24, 2) := by decide +kernel
theorem dX1_note_39 : decode cX1_note 39 = .ok (.iload_n 3, 1) := by decide +kernel
theorem dX1_note_40 : decode cX1_note 40 = .ok (.imul, 1) := by decide +kernel
theorem dX1_note_41 : decode cX1_note 41 = .ok (.iload 4, 2) := by decide +kernel
theorem dX1_note_43 : decode cX1_note 43 = .ok (.iadd, 1) := by decide +kernel
theorem dX1_note_44 : decode cX1_note 44 = .ok (.iload 5, 2) := by decide +kernel
theorem dX1_note_46 : decode cX1_note 46 = .ok (.iastore, 1) := by decide +kernel
theorem dX1_note_47 : decode cX1_note 47 = .ok (.aload_n 0, 1) := by decide +kernel
theorem dX1_note_48 : decode cX1_note 48 = .ok (.iconst 0, 1) := by decide +kernel
theorem dX1_note_49 : decode cX1_note 49 = .ok (.invokevirtual 51, 3) := by decide +kernel
theorem dX1_note_52 : decode cX1_note 52 = .ok (.ireturn, 1) := by decide +kernel
set_option maxRecDepth 20000 in
theorem ggX1_chart_X1_hasPlace : GoodIn wsX1_chart wsX1_hasPlace := goodIn_r _ [7, 8, 9, 1, 10, 11, 12, 6, 13, 14, 15, 16, 17, 24, 25, 26, 27, 28, 29, 30, 31, 32, 33, 34, 35] (by decide +kernel) (by decide +kernel)
set_option maxRecDepth 20000 in
theorem gX1_chart_X1_hasPlace : GoodIn wsX1_chart (wsV RX1 100 RX1 yX1_hasPlace wsX1_hasPlace) := goodIn_app (goodIn_of _ (by decide +kernel)) ggX1_chart_X1_hasPlace
set_option maxRecDepth 20000 in
theorem ggX1_chart_X1_answer : GoodIn wsX1_chart wsX1_answer := goodIn_r _ [21, 1, 22, 23, 24, 25, 26, 27, 28, 29, 30, 31, 32, 33, 34, 35] (by decide +kernel) (by decide +kernel)
set_option maxRecDepth 20000 in
theorem gX1_chart_X1_answer : GoodIn wsX1_chart (wsV RX1 51 RX1 yX1_answer wsX1_answer) := goodIn_app (goodIn_of _ (by decide +kernel)) ggX1_chart_X1_answer
theorem dX1_chart_0 : decode cX1_chart 0 = .ok (.aload_n 0, 1) := by decide +kernel
theorem dX1_chart_1 : decode cX1_chart 1 = .ok (.iconst 0, 1) := by decide +kernel
theorem dX1_chart_2 : decode cX1_chart 2 = .ok (.putfield 23, 3) := by decide +kernel
theorem dX1_chart_5 : decode cX1_chart 5 = .ok (.aload_n 0, 1) := by decide +kernel
theorem dX1_chart_6 : decode cX1_chart 6 = .ok (.iload_n 1, 1) := by decide +kernel
theorem dX1_chart_7 : decode cX1_chart 7 = .ok (.iload_n 2, 1) := by decide +kernel
theorem dX1_chart_8 : decode cX1_chart 8 = .ok (.invokevirtual 100, 3) := by decide +kernel
theorem dX1_chart_11 : decode cX1_chart 11 = .ok (.ifCond .eq 17, 3) := by decide +kernel
theorem dX1_chart_14 : decode cX1_chart 14 = .ok (.aload_n 0, 1) := by decide +kernel
theorem dX1_chart_15 : decode cX1_chart 15 = .ok (.getfield 16, 3) := by decide +kernel
theorem dX1_chart_18 : decode cX1_chart 18 = .ok (.bipush 24, 2) := by decide +kernel
theorem dX1_chart_20 : decode cX1_chart 20 = .ok (.iload_n 1, 1) := by decide +kernel
theorem dX1_chart_21 : decode cX1_chart 21 = .ok (.imul, 1) := by decide +kernel
theorem dX1_chart_22 : decode cX1_chart 22 = .ok (.iload_n 2, 1) := by decide +kernel
theorem dX1_chart_23 : decode cX1_chart 23 = .ok (.iadd, 1) := by decide +kernel
theorem dX1_chart_24 : decode cX1_chart 24 = .ok (.iaload, 1) := by decide +kernel
theorem dX1_chart_25 : decode cX1_chart 25 = .ok (.goto 4, 3) := by decide +kernel
theorem dX1_chart_28 : decode cX1_chart 28 = .ok (.iconst 0, 1) := by decide +kernel
theorem dX1_chart_29 : decode cX1_chart 29 = .ok (.istore_n 3, 1) := by decide +kernel
theorem dX1_chart_30 : decode cX1_chart 30 = .ok (.aload_n 0, 1) := by decide +kernel
theorem dX1_chart_31 : decode cX1_chart 31 = .ok (.iload_n 3, 1) := by decide +kernel
theorem dX1_chart_32 : decode cX1_chart 32 = .ok (.invokevirtual 51, 3) := by decide +kernel
theorem dX1_chart_35 : decode cX1_chart 35 = .ok (.ireturn, 1) := by decide +kernel
set_option maxRecDepth 20000 in
theorem ggX1_columns_X1_hasRow : GoodIn wsX1_columns wsX1_hasRow := goodIn_r _ [7, 1, 8, 9, 10, 11, 18, 19, 20, 21, 22, 23, 24, 25, 26, 27, 28, 29] (by decide +kernel) (by decide +kernel)
set_option maxRecDepth 20000 in
theorem gX1_columns_X1_hasRow : GoodIn wsX1_columns (wsV RX1 96 RX1 yX1_hasRow wsX1_hasRow) := goodIn_app (goodIn_of _ (by decide +kernel)) ggX1_columns_X1_hasRow
set_option maxRecDepth 20000 in
theorem ggX1_columns_X1_answer : GoodIn wsX1_columns wsX1_answer := goodIn_r _ [15, 1, 16, 17, 18, 19, 20, 21, 22, 23, 24, 25, 26, 27, 28, 29] (by decide +kernel) (by decide +kernel)
set_option maxRecDepth 20000 in
theorem gX1_columns_X1_answer : GoodIn wsX1_columns (wsV RX1 51 RX1 yX1_answer wsX1_answer) := goodIn_app (goodIn_of _ (by decide +kernel)) ggX1_columns_X1_answer
theorem dX1_columns_0 : decode cX1_columns 0 = .ok (.aload_n 0, 1) := by decide +kernel
theorem dX1_columns_1 : decode cX1_columns 1 = .ok (.iconst 0, 1) := by decide +kernel
theorem dX1_columns_2 : decode cX1_columns 2 = .ok (.putfield 23, 3) := by decide +kernel
theorem dX1_columns_5 : decode cX1_columns 5 = .ok (.aload_n 0, 1) := by decide +kernel
theorem dX1_columns_6 : decode cX1_columns 6 = .ok (.iload_n 1, 1) := by decide +kernel
theorem dX1_columns_7 : decode cX1_columns 7 = .ok (.invokevirtual 96, 3) := by decide +kernel
theorem dX1_columns_10 : decode cX1_columns 10 = .ok (.ifCond .eq 10, 3) := by decide +kernel
theorem dX1_columns_13 : decode cX1_columns 13 = .ok (.aload_n 0, 1) := by decide +kernel
theorem dX1_columns_14 : decode cX1_columns 14 = .ok (.getfield 91, 3) := by decide +kernel
theorem dX1_columns_17 : decode cX1_columns 17 = .ok (.goto 4, 3) := by decide +kernel
theorem dX1_columns_20 : decode cX1_columns 20 = .ok (.iconst 0, 1) := by decide +kernel
theorem dX1_columns_21 : decode cX1_columns 21 = .ok (.istore_n 2, 1) := by decide +kernel
theorem dX1_columns_22 : decode cX1_columns 22 = .ok (.aload_n 0, 1) := by decide +kernel
theorem dX1_columns_23 : decode cX1_columns 23 = .ok (.iload_n 2, 1) := by decide +kernel
theorem dX1_columns_24 : decode cX1_columns 24 = .ok (.invokevirtual 51, 3) := by decide +kernel
theorem dX1_columns_27 : decode cX1_columns 27 = .ok (.ireturn, 1) := by decide +kernel
theorem dX1_look_0 : decode cX1_look 0 = .ok (.iload_n 1, 1) := by decide +kernel
theorem dX1_look_1 : decode cX1_look 1 = .ok (.iconst 5, 1) := by decide +kernel
theorem dX1_look_2 : decode cX1_look 2 = .ok (.if_icmp .ne 37, 3) := by decide +kernel
theorem dX1_look_5 : decode cX1_look 5 = .ok (.iconst 0, 1) := by decide +kernel
theorem dX1_look_6 : decode cX1_look 6 = .ok (.istore_n 2, 1) := by decide +kernel
theorem dX1_look_7 : decode cX1_look 7 = .ok (.iconst 0, 1) := by decide +kernel
theorem dX1_look_8 : decode cX1_look 8 = .ok (.istore_n 3, 1) := by decide +kernel
theorem dX1_look_9 : decode cX1_look 9 = .ok (.iload_n 3, 1) := by decide +kernel
theorem dX1_look_10 : decode cX1_look 10 = .ok (.iconst 5, 1) := by decide +kernel
theorem dX1_look_11 : decode cX1_look 11 = .ok (.if_icmp .ge 26, 3) := by decide +kernel
theorem dX1_look_14 : decode cX1_look 14 = .ok (.iload_n 2, 1) := by decide +kernel
theorem dX1_look_15 : decode cX1_look 15 = .ok (.aload_n 0, 1) := by decide +kernel
theorem dX1_look_16 : decode cX1_look 16 = .ok (.getfield 7, 3) := by decide +kernel
theorem dX1_look_19 : decode cX1_look 19 = .ok (.iload_n 3, 1) := by decide +kernel
theorem dX1_look_20 : decode cX1_look 20 = .ok (.iaload, 1) := by decide +kernel
theorem dX1_look_21 : decode cX1_look 21 = .ok (.ifCond .lt 7, 3) := by decide +kernel
theorem dX1_look_24 : decode cX1_look 24 = .ok (.iconst 1, 1) := by decide +kernel
theorem dX1_look_25 : decode cX1_look 25 = .ok (.goto 4, 3) := by decide +kernel
theorem dX1_look_28 : decode cX1_look 28 = .ok (.iconst 0, 1) := by decide +kernel
theorem dX1_look_29 : decode cX1_look 29 = .ok (.iadd, 1) := by decide +kernel
theorem dX1_look_30 : decode cX1_look 30 = .ok (.istore_n 2, 1) := by decide +kernel
theorem dX1_look_31 : decode cX1_look 31 = .ok (.iinc 3 1, 3) := by decide +kernel
theorem dX1_look_34 : decode cX1_look 34 = .ok (.goto (-25), 3) := by decide +kernel
theorem dX1_look_37 : decode cX1_look 37 = .ok (.iload_n 2, 1) := by decide +kernel
theorem dX1_look_38 : decode cX1_look 38 = .ok (.ireturn, 1) := by decide +kernel
theorem dX1_look_39 : decode cX1_look 39 = .ok (.iload_n 1, 1) := by decide +kernel
theorem dX1_look_40 : decode cX1_look 40 = .ok (.ifCond .ne 10, 3) := by decide +kernel
theorem dX1_look_43 : decode cX1_look 43 = .ok (.aload_n 0, 1) := by decide +kernel
theorem dX1_look_44 : decode cX1_look 44 = .ok (.getfield 19, 3) := by decide +kernel
theorem dX1_look_47 : decode cX1_look 47 = .ok (.goto 53, 3) := by decide +kernel
theorem dX1_look_50 : decode cX1_look 50 = .ok (.iload_n 1, 1) := by decide +kernel
theorem dX1_look_51 : decode cX1_look 51 = .ok (.iconst 1, 1) := by decide +kernel
theorem dX1_look_52 : decode cX1_look 52 = .ok (.if_icmp .ne 10, 3) := by decide +kernel
theorem dX1_look_55 : decode cX1_look 55 = .ok (.aload_n 0, 1) := by decide +kernel
theorem dX1_look_56 : decode cX1_look 56 = .ok (.getfield 75, 3) := by decide +kernel
theorem dX1_look_59 : decode cX1_look 59 = .ok (.goto 41, 3) := by decide +kernel
theorem dX1_look_62 : decode cX1_look 62 = .ok (.iload_n 1, 1) := by decide +kernel
theorem dX1_look_63 : decode cX1_look 63 = .ok (.iconst 2, 1) := by decide +kernel
theorem dX1_look_64 : decode cX1_look 64 = .ok (.if_icmp .ne 10, 3) := by decide +kernel
theorem dX1_look_67 : decode cX1_look 67 = .ok (.aload_n 0, 1) := by decide +kernel
theorem dX1_look_68 : decode cX1_look 68 = .ok (.getfield 78, 3) := by decide +kernel
theorem dX1_look_71 : decode cX1_look 71 = .ok (.goto 29, 3) := by decide +kernel
theorem dX1_look_74 : decode cX1_look 74 = .ok (.iload_n 1, 1) := by decide +kernel
theorem dX1_look_75 : decode cX1_look 75 = .ok (.iconst 3, 1) := by decide +kernel
theorem dX1_look_76 : decode cX1_look 76 = .ok (.if_icmp .ne 10, 3) := by decide +kernel
theorem dX1_look_79 : decode cX1_look 79 = .ok (.aload_n 0, 1) := by decide +kernel
theorem dX1_look_80 : decode cX1_look 80 = .ok (.getfield 40, 3) := by decide +kernel
theorem dX1_look_83 : decode cX1_look 83 = .ok (.goto 17, 3) := by decide +kernel
theorem dX1_look_86 : decode cX1_look 86 = .ok (.iload_n 1, 1) := by decide +kernel
theorem dX1_look_87 : decode cX1_look 87 = .ok (.iconst 4, 1) := by decide +kernel
theorem dX1_look_88 : decode cX1_look 88 = .ok (.if_icmp .ne 10, 3) := by decide +kernel
theorem dX1_look_91 : decode cX1_look 91 = .ok (.aload_n 0, 1) := by decide +kernel
theorem dX1_look_92 : decode cX1_look 92 = .ok (.getfield 43, 3) := by decide +kernel
theorem dX1_look_95 : decode cX1_look 95 = .ok (.goto 5, 3) := by decide +kernel
theorem dX1_look_98 : decode cX1_look 98 = .ok (.ldc 50, 2) := by decide +kernel
theorem dX1_look_100 : decode cX1_look 100 = .ok (.ireturn, 1) := by decide +kernel
theorem dJ9_max_7cf53_0 : decode cJ9_max_7cf53 0 = .ok (.iload_n 0, 1) := by decide +kernel
theorem dJ9_max_7cf53_1 : decode cJ9_max_7cf53 1 = .ok (.iload_n 1, 1) := by decide +kernel
theorem dJ9_max_7cf53_2 : decode cJ9_max_7cf53 2 = .ok (.if_icmp .lt 7, 3) := by decide +kernel
theorem dJ9_max_7cf53_5 : decode cJ9_max_7cf53 5 = .ok (.iload_n 0, 1) := by decide +kernel
theorem dJ9_max_7cf53_6 : decode cJ9_max_7cf53 6 = .ok (.goto 4, 3) := by decide +kernel
theorem dJ9_max_7cf53_9 : decode cJ9_max_7cf53 9 = .ok (.iload_n 1, 1) := by decide +kernel
theorem dJ9_max_7cf53_10 : decode cJ9_max_7cf53 10 = .ok (.ireturn, 1) := by decide +kernel
theorem dJ9_min_7cf53_0 : decode cJ9_min_7cf53 0 = .ok (.iload_n 0, 1) := by decide +kernel
theorem dJ9_min_7cf53_1 : decode cJ9_min_7cf53 1 = .ok (.iload_n 1, 1) := by decide +kernel
theorem dJ9_min_7cf53_2 : decode cJ9_min_7cf53 2 = .ok (.if_icmp .gt 7, 3) := by decide +kernel
theorem dJ9_min_7cf53_5 : decode cJ9_min_7cf53 5 = .ok (.iload_n 0, 1) := by decide +kernel
theorem dJ9_min_7cf53_6 : decode cJ9_min_7cf53 6 = .ok (.goto 4, 3) := by decide +kernel
theorem dJ9_min_7cf53_9 : decode cJ9_min_7cf53 9 = .ok (.iload_n 1, 1) := by decide +kernel
theorem dJ9_min_7cf53_10 : decode cJ9_min_7cf53 10 = .ok (.ireturn, 1) := by decide +kernel
theorem dJ7_fill_53178_0 : decode cJ7_fill_53178 0 = .ok (.iconst 0, 1) := by decide +kernel
theorem dJ7_fill_53178_1 : decode cJ7_fill_53178 1 = .ok (.istore_n 2, 1) := by decide +kernel
theorem dJ7_fill_53178_2 : decode cJ7_fill_53178 2 = .ok (.aload_n 0, 1) := by decide +kernel
theorem dJ7_fill_53178_3 : decode cJ7_fill_53178 3 = .ok (.arraylength, 1) := by decide +kernel
theorem dJ7_fill_53178_4 : decode cJ7_fill_53178 4 = .ok (.istore_n 3, 1) := by decide +kernel
theorem dJ7_fill_53178_5 : decode cJ7_fill_53178 5 = .ok (.iload_n 2, 1) := by decide +kernel
theorem dJ7_fill_53178_6 : decode cJ7_fill_53178 6 = .ok (.iload_n 3, 1) := by decide +kernel
theorem dJ7_fill_53178_7 : decode cJ7_fill_53178 7 = .ok (.if_icmp .ge 13, 3) := by decide +kernel
theorem dJ7_fill_53178_10 : decode cJ7_fill_53178 10 = .ok (.aload_n 0, 1) := by decide +kernel
theorem dJ7_fill_53178_11 : decode cJ7_fill_53178 11 = .ok (.iload_n 2, 1) := by decide +kernel
theorem dJ7_fill_53178_12 : decode cJ7_fill_53178 12 = .ok (.iload_n 1, 1) := by decide +kernel
theorem dJ7_fill_53178_13 : decode cJ7_fill_53178 13 = .ok (.iastore, 1) := by decide +kernel
theorem dJ7_fill_53178_14 : decode cJ7_fill_53178 14 = .ok (.iinc 2 1, 3) := by decide +kernel
theorem dJ7_fill_53178_17 : decode cJ7_fill_53178 17 = .ok (.goto (-12), 3) := by decide +kernel
theorem dJ7_fill_53178_20 : decode cJ7_fill_53178 20 = .ok (.return_, 1) := by decide +kernel
theorem dL_cell_0 : decode cL_cell 0 = .ok (.iload_n 1, 1) := by decide +kernel
theorem dL_cell_1 : decode cL_cell 1 = .ok (.aload_n 0, 1) := by decide +kernel
theorem dL_cell_2 : decode cL_cell 2 = .ok (.arraylength, 1) := by decide +kernel
theorem dL_cell_3 : decode cL_cell 3 = .ok (.if_icmp .ge 9, 3) := by decide +kernel
theorem dL_cell_6 : decode cL_cell 6 = .ok (.aload_n 0, 1) := by decide +kernel
theorem dL_cell_7 : decode cL_cell 7 = .ok (.iload_n 1, 1) := by decide +kernel
theorem dL_cell_8 : decode cL_cell 8 = .ok (.iaload, 1) := by decide +kernel
theorem dL_cell_9 : decode cL_cell 9 = .ok (.goto 4, 3) := by decide +kernel
theorem dL_cell_12 : decode cL_cell 12 = .ok (.iconst 0, 1) := by decide +kernel
theorem dL_cell_13 : decode cL_cell 13 = .ok (.ireturn, 1) := by decide +kernel
set_option maxRecDepth 20000 in
theorem ggL_law_L_cell : GoodIn wsL_law wsL_cell := goodIn_r _ [9] (by decide +kernel) (by decide +kernel)
set_option maxRecDepth 20000 in
theorem gL_law_L_cell : GoodIn wsL_law (va_wsS RL 9 yL_cell wsL_cell) := goodIn_app (goodIn_of _ (by decide +kernel)) ggL_law_L_cell
set_option maxRecDepth 20000 in
theorem ggL_law_X0_init : GoodIn wsL_law wsX0_init := goodIn_r _ [12, 13, 14, 15, 16, 17, 18, 19, 20, 21, 22, 23, 24, 25, 26, 27, 28, 29, 2, 30, 31, 32, 33, 34, 35, 36, 37, 38, 39, 40, 41, 339, 340, 341, 342, 343, 344, 345, 346, 347, 348] (by decide +kernel) (by decide +kernel)
set_option maxRecDepth 20000 in
theorem gL_law_X0_init : GoodIn wsL_law (wsX0_init) := ggL_law_X0_init
set_option maxRecDepth 20000 in
theorem ggL_law_X1_init : GoodIn wsL_law wsX1_init := goodIn_r _ [44, 45, 14, 15, 16, 46, 47, 48, 49, 349, 350, 351, 352, 353, 354, 355, 356, 357, 358, 359, 360] (by decide +kernel) (by decide +kernel)
set_option maxRecDepth 20000 in
theorem gL_law_X1_init : GoodIn wsL_law (wsX1_init) := ggL_law_X1_init
set_option maxRecDepth 20000 in
theorem ggL_law_X0_keep : GoodIn wsL_law wsX0_keep := goodIn_r _ [53, 54, 19, 17, 55, 56, 2, 57, 38, 39, 40, 41, 339, 340, 341, 342, 343, 344, 345, 346, 347, 348] (by decide +kernel) (by decide +kernel)
set_option maxRecDepth 20000 in
theorem gL_law_X0_keep : GoodIn wsL_law (wsV RL 21 RX0 yX0_keep wsX0_keep) := goodIn_app (goodIn_of _ (by decide +kernel)) ggL_law_X0_keep
set_option maxRecDepth 20000 in
theorem ggL_law_X1_keep : GoodIn wsL_law wsX1_keep := goodIn_r _ [61, 62, 46, 47, 63, 64, 5, 65, 349, 350, 351, 352, 353, 354, 355, 356, 357, 358, 359, 360] (by decide +kernel) (by decide +kernel)
set_option maxRecDepth 20000 in
theorem gL_law_X1_keep : GoodIn wsL_law (wsV RL 25 RX1 yX1_keep wsX1_keep) := goodIn_app (goodIn_of _ (by decide +kernel)) ggL_law_X1_keep
set_option maxRecDepth 20000 in
theorem ggL_law_X0_lose : GoodIn wsL_law wsX0_lose := goodIn_r _ [69, 54, 17, 55, 56, 2, 57, 339, 340, 341, 342, 343, 344, 345, 346, 347, 348] (by decide +kernel) (by decide +kernel)
set_option maxRecDepth 20000 in
theorem gL_law_X0_lose : GoodIn wsL_law (wsV RL 26 RX0 yX0_lose wsX0_lose) := goodIn_app (goodIn_of _ (by decide +kernel)) ggL_law_X0_lose
set_option maxRecDepth 20000 in
theorem ggL_law_X1_lose : GoodIn wsL_law wsX1_lose := goodIn_r _ [73, 62, 46, 63, 64, 5, 65, 349, 350, 351, 352, 353, 354, 355, 356, 357, 358, 359, 360] (by decide +kernel) (by decide +kernel)
set_option maxRecDepth 20000 in
theorem gL_law_X1_lose : GoodIn wsL_law (wsV RL 30 RX1 yX1_lose wsX1_lose) := goodIn_app (goodIn_of _ (by decide +kernel)) ggL_law_X1_lose
set_option maxRecDepth 20000 in
theorem ggL_law_X0_lines : GoodIn wsL_law wsX0_lines := goodIn_r _ [77, 54, 26, 17, 55, 56, 2, 57, 78, 79, 80, 81, 82, 83, 84, 85, 86, 25, 339, 340, 341, 342, 343, 344, 345, 346, 347, 348] (by decide +kernel) (by decide +kernel)
set_option maxRecDepth 20000 in
theorem gL_law_X0_lines : GoodIn wsL_law (wsV RL 31 RX0 yX0_lines wsX0_lines) := goodIn_app (goodIn_of _ (by decide +kernel)) ggL_law_X0_lines
set_option maxRecDepth 20000 in
theorem ggL_law_X1_lines : GoodIn wsL_law wsX1_lines := goodIn_r _ [90, 62, 46, 91, 92, 63, 64, 5, 65, 93, 94, 95, 96, 97, 98, 349, 350, 351, 352, 353, 354, 355, 356, 357, 358, 359, 360] (by decide +kernel) (by decide +kernel)
set_option maxRecDepth 20000 in
theorem gL_law_X1_lines : GoodIn wsL_law (wsV RL 34 RX1 yX1_lines wsX1_lines) := goodIn_app (goodIn_of _ (by decide +kernel)) ggL_law_X1_lines
set_option maxRecDepth 20000 in
theorem ggL_law_X0_read : GoodIn wsL_law wsX0_read := goodIn_r _ [102, 54, 26, 19, 55, 56, 2, 57, 103, 104, 105, 106, 17, 107, 78, 79, 80, 81, 82, 83, 84, 85, 86, 25, 339, 340, 341, 342, 343, 344, 345, 346, 347, 348] (by decide +kernel) (by decide +kernel)
set_option maxRecDepth 20000 in
theorem gL_law_X0_read : GoodIn wsL_law (wsV RL 35 RX0 yX0_read wsX0_read) := goodIn_app (goodIn_of _ (by decide +kernel)) ggL_law_X0_read
set_option maxRecDepth 20000 in
theorem ggL_law_X1_read : GoodIn wsL_law wsX1_read := goodIn_r _ [111, 62, 92, 63, 64, 5, 65, 112, 113, 114, 115, 47, 116, 117, 118, 119, 46, 91, 120, 93, 94, 95, 96, 97, 98, 349, 350, 351, 352, 353, 354, 355, 356, 357, 358, 359, 360] (by decide +kernel) (by decide +kernel)
set_option maxRecDepth 20000 in
theorem gL_law_X1_read : GoodIn wsL_law (wsV RL 38 RX1 yX1_read wsX1_read) := goodIn_app (goodIn_of _ (by decide +kernel)) ggL_law_X1_read
set_option maxRecDepth 20000 in
theorem ggL_law_X0_write : GoodIn wsL_law wsX0_write := goodIn_r _ [124, 54, 26, 55, 56, 2, 57, 125, 126, 127, 103, 104, 105, 106, 17, 107, 78, 79, 80, 81, 82, 83, 84, 85, 86, 25, 128, 129, 130, 131, 19, 132, 133, 134, 135, 136, 137, 28, 29, 30, 31, 32, 33, 34, 35, 36, 37, 339, 340, 341, 342, 343, 344, 345, 346, 347, 348] (by decide +kernel) (by decide +kernel)
set_option maxRecDepth 20000 in
theorem gL_law_X0_write : GoodIn wsL_law (wsV RL 39 RX0 yX0_write wsX0_write) := goodIn_app (goodIn_of _ (by decide +kernel)) ggL_law_X0_write
set_option maxRecDepth 20000 in
theorem ggL_law_X1_write : GoodIn wsL_law wsX1_write := goodIn_r _ [141, 62, 92, 63, 64, 5, 65, 142, 143, 144, 145, 146, 147, 148, 47, 116, 117, 118, 119, 46, 91, 120, 149, 150, 151, 152, 153, 154, 155, 93, 94, 95, 96, 97, 98, 349, 350, 351, 352, 353, 354, 355, 356, 357, 358, 359, 360] (by decide +kernel) (by decide +kernel)
set_option maxRecDepth 20000 in
theorem gL_law_X1_write : GoodIn wsL_law (wsV RL 43 RX1 yX1_write wsX1_write) := goodIn_app (goodIn_of _ (by decide +kernel)) ggL_law_X1_write
set_option maxRecDepth 20000 in
theorem ggL_law_X0_change : GoodIn wsL_law wsX0_change := goodIn_r _ [159, 54, 26, 19, 55, 56, 2, 57, 125, 126, 127, 103, 104, 105, 106, 17, 107, 78, 79, 80, 81, 82, 83, 84, 85, 86, 25, 160, 161, 162, 163, 164, 165, 128, 129, 130, 131, 132, 133, 134, 135, 136, 137, 28, 29, 30, 31, 32, 33, 34, 35, 36, 37, 339, 340, 341, 342, 343, 344, 345, 346, 347, 348] (by decide +kernel) (by decide +kernel)
set_option maxRecDepth 20000 in
theorem gL_law_X0_change : GoodIn wsL_law (wsV RL 44 RX0 yX0_change wsX0_change) := goodIn_app (goodIn_of _ (by decide +kernel)) ggL_law_X0_change
set_option maxRecDepth 20000 in
theorem ggL_law_X1_change : GoodIn wsL_law wsX1_change := goodIn_r _ [169, 62, 92, 63, 64, 5, 65, 142, 143, 144, 112, 113, 114, 115, 47, 116, 117, 118, 119, 46, 91, 120, 170, 171, 172, 145, 146, 147, 148, 149, 150, 151, 152, 153, 154, 155, 93, 94, 95, 96, 97, 98, 349, 350, 351, 352, 353, 354, 355, 356, 357, 358, 359, 360] (by decide +kernel) (by decide +kernel)
set_option maxRecDepth 20000 in
theorem gL_law_X1_change : GoodIn wsL_law (wsV RL 48 RX1 yX1_change wsX1_change) := goodIn_app (goodIn_of _ (by decide +kernel)) ggL_law_X1_change
set_option maxRecDepth 20000 in
theorem ggL_law_X0_tally : GoodIn wsL_law wsX0_tally := goodIn_r _ [176, 54, 26, 17, 19, 55, 56, 2, 57, 78, 79, 80, 81, 82, 83, 84, 85, 86, 25, 339, 340, 341, 342, 343, 344, 345, 346, 347, 348] (by decide +kernel) (by decide +kernel)
set_option maxRecDepth 20000 in
theorem gL_law_X0_tally : GoodIn wsL_law (wsV RL 49 RX0 yX0_tally wsX0_tally) := goodIn_app (goodIn_of _ (by decide +kernel)) ggL_law_X0_tally
set_option maxRecDepth 20000 in
theorem ggL_law_X1_tally : GoodIn wsL_law wsX1_tally := goodIn_r _ [180, 62, 46, 91, 92, 47, 63, 64, 5, 65, 93, 94, 95, 96, 97, 98, 349, 350, 351, 352, 353, 354, 355, 356, 357, 358, 359, 360] (by decide +kernel) (by decide +kernel)
set_option maxRecDepth 20000 in
theorem gL_law_X1_tally : GoodIn wsL_law (wsV RL 52 RX1 yX1_tally wsX1_tally) := goodIn_app (goodIn_of _ (by decide +kernel)) ggL_law_X1_tally
set_option maxRecDepth 20000 in
theorem ggL_law_X0_copy : GoodIn wsL_law wsX0_copy := goodIn_r _ [184, 54, 26, 17, 19, 55, 56, 2, 57, 78, 79, 80, 81, 82, 83, 84, 85, 86, 25, 103, 104, 105, 106, 107, 185, 186, 187, 28, 29, 30, 31, 32, 33, 34, 35, 36, 37, 128, 129, 130, 131, 132, 133, 134, 135, 136, 137, 339, 340, 341, 342, 343, 344, 345, 346, 347, 348] (by decide +kernel) (by decide +kernel)
set_option maxRecDepth 20000 in
theorem gL_law_X0_copy : GoodIn wsL_law (wsV RL 53 RX0 yX0_copy wsX0_copy) := goodIn_app (goodIn_of _ (by decide +kernel)) ggL_law_X0_copy
set_option maxRecDepth 20000 in
theorem ggL_law_X1_copy : GoodIn wsL_law wsX1_copy := goodIn_r _ [191, 62, 46, 91, 92, 47, 63, 64, 5, 65, 145, 146, 147, 148, 116, 117, 118, 119, 120, 149, 150, 151, 152, 153, 154, 155, 93, 94, 95, 96, 97, 98, 349, 350, 351, 352, 353, 354, 355, 356, 357, 358, 359, 360] (by decide +kernel) (by decide +kernel)
set_option maxRecDepth 20000 in
theorem gL_law_X1_copy : GoodIn wsL_law (wsV RL 56 RX1 yX1_copy wsX1_copy) := goodIn_app (goodIn_of _ (by decide +kernel)) ggL_law_X1_copy
set_option maxRecDepth 20000 in
theorem ggL_law_X0_sluice : GoodIn wsL_law wsX0_sluice := goodIn_r _ [195, 54, 26, 19, 196, 197, 198, 2, 199, 27, 103, 104, 105, 106, 17, 107, 78, 79, 80, 81, 82, 83, 84, 85, 86, 25, 128, 129, 130, 131, 132, 133, 134, 135, 136, 137, 28, 29, 30, 31, 32, 33, 34, 35, 36, 37, 200, 201, 202, 203, 339, 340, 341, 342, 343, 344, 345, 346, 347, 348] (by decide +kernel) (by decide +kernel)
set_option maxRecDepth 20000 in
theorem gL_law_X0_sluice : GoodIn wsL_law (wsV RL 57 RX0 yX0_sluice wsX0_sluice) := goodIn_app (goodIn_of _ (by decide +kernel)) ggL_law_X0_sluice
set_option maxRecDepth 20000 in
theorem ggL_law_X1_sluice : GoodIn wsL_law wsX1_sluice := goodIn_r _ [207, 62, 92, 49, 208, 209, 210, 5, 211, 212, 213, 214, 215, 47, 116, 117, 118, 119, 46, 91, 120, 149, 150, 151, 152, 153, 154, 155, 112, 113, 114, 115, 93, 94, 95, 96, 97, 98, 349, 350, 351, 352, 353, 354, 355, 356, 357, 358, 359, 360] (by decide +kernel) (by decide +kernel)
set_option maxRecDepth 20000 in
theorem gL_law_X1_sluice : GoodIn wsL_law (wsV RL 60 RX1 yX1_sluice wsX1_sluice) := goodIn_app (goodIn_of _ (by decide +kernel)) ggL_law_X1_sluice
set_option maxRecDepth 20000 in
theorem ggL_law_X0_open : GoodIn wsL_law wsX0_open := goodIn_r _ [219, 54, 26, 19, 196, 197, 198, 2, 199, 27, 103, 104, 105, 106, 17, 107, 78, 79, 80, 81, 82, 83, 84, 85, 86, 25, 200, 201, 202, 203, 128, 129, 130, 131, 132, 133, 134, 135, 136, 137, 28, 29, 30, 31, 32, 33, 34, 35, 36, 37, 339, 340, 341, 342, 343, 344, 345, 346, 347, 348] (by decide +kernel) (by decide +kernel)
set_option maxRecDepth 20000 in
theorem gL_law_X0_open : GoodIn wsL_law (wsV RL 61 RX0 yX0_open wsX0_open) := goodIn_app (goodIn_of _ (by decide +kernel)) ggL_law_X0_open
set_option maxRecDepth 20000 in
theorem ggL_law_X1_open : GoodIn wsL_law wsX1_open := goodIn_r _ [223, 62, 92, 49, 208, 209, 210, 5, 211, 112, 113, 114, 115, 47, 116, 117, 118, 119, 46, 91, 120, 145, 146, 147, 148, 149, 150, 151, 152, 153, 154, 155, 93, 94, 95, 96, 97, 98, 349, 350, 351, 352, 353, 354, 355, 356, 357, 358, 359, 360] (by decide +kernel) (by decide +kernel)
set_option maxRecDepth 20000 in
theorem gL_law_X1_open : GoodIn wsL_law (wsV RL 64 RX1 yX1_open wsX1_open) := goodIn_app (goodIn_of _ (by decide +kernel)) ggL_law_X1_open
set_option maxRecDepth 20000 in
theorem ggL_law_X0_shut : GoodIn wsL_law wsX0_shut := goodIn_r _ [227, 54, 26, 19, 196, 197, 198, 2, 199, 27, 103, 104, 105, 106, 17, 107, 78, 79, 80, 81, 82, 83, 84, 85, 86, 25, 128, 129, 130, 131, 132, 133, 134, 135, 136, 137, 28, 29, 30, 31, 32, 33, 34, 35, 36, 37, 339, 340, 341, 342, 343, 344, 345, 346, 347, 348] (by decide +kernel) (by decide +kernel)
set_option maxRecDepth 20000 in
theorem gL_law_X0_shut : GoodIn wsL_law (wsV RL 65 RX0 yX0_shut wsX0_shut) := goodIn_app (goodIn_of _ (by decide +kernel)) ggL_law_X0_shut
set_option maxRecDepth 20000 in
theorem ggL_law_X1_shut : GoodIn wsL_law wsX1_shut := goodIn_r _ [231, 62, 92, 208, 209, 210, 5, 211, 49, 112, 113, 114, 115, 47, 116, 117, 118, 119, 46, 91, 120, 145, 146, 147, 148, 149, 150, 151, 152, 153, 154, 155, 93, 94, 95, 96, 97, 98, 349, 350, 351, 352, 353, 354, 355, 356, 357, 358, 359, 360] (by decide +kernel) (by decide +kernel)
set_option maxRecDepth 20000 in
theorem gL_law_X1_shut : GoodIn wsL_law (wsV RL 68 RX1 yX1_shut wsX1_shut) := goodIn_app (goodIn_of _ (by decide +kernel)) ggL_law_X1_shut
set_option maxRecDepth 20000 in
theorem ggL_law_X0_enter : GoodIn wsL_law wsX0_enter := goodIn_r _ [235, 54, 26, 19, 132, 133, 2, 134, 135, 136, 137, 28, 29, 30, 31, 32, 33, 34, 35, 36, 37, 103, 104, 105, 106, 17, 107, 78, 79, 80, 81, 82, 83, 84, 85, 86, 25, 236, 237, 238, 239, 128, 129, 130, 131, 339, 340, 341, 342, 343, 344, 345, 346, 347, 348] (by decide +kernel) (by decide +kernel)
set_option maxRecDepth 20000 in
theorem gL_law_X0_enter : GoodIn wsL_law (wsV RL 69 RX0 yX0_enter wsX0_enter) := goodIn_app (goodIn_of _ (by decide +kernel)) ggL_law_X0_enter
set_option maxRecDepth 20000 in
theorem ggL_law_X1_enter : GoodIn wsL_law wsX1_enter := goodIn_r _ [243, 152, 62, 92, 112, 113, 114, 5, 115, 47, 116, 117, 118, 119, 46, 91, 120, 145, 146, 147, 148, 149, 150, 151, 153, 154, 155, 212, 213, 214, 215, 93, 94, 95, 96, 97, 98, 349, 350, 351, 352, 353, 354, 355, 356, 357, 358, 359, 360] (by decide +kernel) (by decide +kernel)
set_option maxRecDepth 20000 in
theorem gL_law_X1_enter : GoodIn wsL_law (wsV RL 72 RX1 yX1_enter wsX1_enter) := goodIn_app (goodIn_of _ (by decide +kernel)) ggL_law_X1_enter
set_option maxRecDepth 20000 in
theorem ggL_law_X0_pass : GoodIn wsL_law wsX0_pass := goodIn_r _ [247, 54, 26, 19, 196, 197, 198, 2, 199, 27, 103, 104, 105, 106, 17, 107, 78, 79, 80, 81, 82, 83, 84, 85, 86, 25, 200, 201, 202, 203, 248, 249, 250, 251, 23, 24, 252, 253, 254, 255, 128, 129, 130, 131, 132, 133, 134, 135, 136, 137, 28, 29, 30, 31, 32, 33, 34, 35, 36, 37, 256, 257, 258, 259, 236, 237, 238, 239, 339, 340, 341, 342, 343, 344, 345, 346, 347, 348] (by decide +kernel) (by decide +kernel)
set_option maxRecDepth 20000 in
theorem gL_law_X0_pass : GoodIn wsL_law (wsV RL 73 RX0 yX0_pass wsX0_pass) := goodIn_app (goodIn_of _ (by decide +kernel)) ggL_law_X0_pass
set_option maxRecDepth 20000 in
theorem ggL_law_X1_pass : GoodIn wsL_law wsX1_pass := goodIn_r _ [263, 62, 92, 49, 264, 265, 208, 209, 210, 5, 211, 112, 113, 114, 115, 47, 116, 117, 118, 119, 46, 91, 120, 266, 267, 268, 269, 145, 146, 147, 148, 149, 150, 151, 152, 153, 154, 155, 212, 213, 214, 215, 93, 94, 95, 96, 97, 98, 349, 350, 351, 352, 353, 354, 355, 356, 357, 358, 359, 360] (by decide +kernel) (by decide +kernel)
set_option maxRecDepth 20000 in
theorem gL_law_X1_pass : GoodIn wsL_law (wsV RL 76 RX1 yX1_pass wsX1_pass) := goodIn_app (goodIn_of _ (by decide +kernel)) ggL_law_X1_pass
set_option maxRecDepth 20000 in
theorem ggL_law_X0_survey : GoodIn wsL_law wsX0_survey := goodIn_r _ [273, 20, 21, 22, 38, 39, 40, 41, 339, 340, 341, 342, 343, 344, 345, 346, 347, 348] (by decide +kernel) (by decide +kernel)
set_option maxRecDepth 20000 in
theorem gL_law_X0_survey : GoodIn wsL_law (wsV RL 77 RX0 yX0_survey wsX0_survey) := goodIn_app (goodIn_of _ (by decide +kernel)) ggL_law_X0_survey
set_option maxRecDepth 20000 in
theorem ggL_law_X1_survey : GoodIn wsL_law wsX1_survey := goodIn_r _ [277, 278, 279, 280, 48, 349, 350, 351, 352, 353, 354, 355, 356, 357, 358, 359, 360] (by decide +kernel) (by decide +kernel)
set_option maxRecDepth 20000 in
theorem gL_law_X1_survey : GoodIn wsL_law (wsV RL 80 RX1 yX1_survey wsX1_survey) := goodIn_app (goodIn_of _ (by decide +kernel)) ggL_law_X1_survey
set_option maxRecDepth 20000 in
theorem ggL_law_X0_note : GoodIn wsL_law wsX0_note := goodIn_r _ [284, 54, 26, 20, 19, 55, 56, 2, 57, 103, 104, 105, 106, 17, 107, 78, 79, 80, 81, 82, 83, 84, 85, 86, 25, 285, 286, 287, 288, 22, 289, 290, 291, 292, 293, 21, 294, 295, 339, 340, 341, 342, 343, 344, 345, 346, 347, 348] (by decide +kernel) (by decide +kernel)
set_option maxRecDepth 20000 in
theorem gL_law_X0_note : GoodIn wsL_law (wsV RL 81 RX0 yX0_note wsX0_note) := goodIn_app (goodIn_of _ (by decide +kernel)) ggL_law_X0_note
set_option maxRecDepth 20000 in
theorem ggL_law_X1_note : GoodIn wsL_law wsX1_note := goodIn_r _ [299, 62, 92, 48, 63, 64, 5, 65, 112, 113, 114, 115, 47, 116, 117, 118, 119, 46, 91, 120, 300, 301, 302, 303, 280, 304, 305, 306, 307, 308, 278, 309, 279, 310, 93, 94, 95, 96, 97, 98, 349, 350, 351, 352, 353, 354, 355, 356, 357, 358, 359, 360] (by decide +kernel) (by decide +kernel)
set_option maxRecDepth 20000 in
theorem gL_law_X1_note : GoodIn wsL_law (wsV RL 84 RX1 yX1_note wsX1_note) := goodIn_app (goodIn_of _ (by decide +kernel)) ggL_law_X1_note
set_option maxRecDepth 20000 in
theorem ggL_law_X0_chart : GoodIn wsL_law wsX0_chart := goodIn_r _ [314, 26, 20, 285, 286, 287, 2, 288, 22, 289, 290, 291, 292, 293, 21, 294, 295, 83, 84, 85, 86, 25, 339, 340, 341, 342, 343, 344, 345, 346, 347, 348] (by decide +kernel) (by decide +kernel)
set_option maxRecDepth 20000 in
theorem gL_law_X0_chart : GoodIn wsL_law (wsV RL 85 RX0 yX0_chart wsX0_chart) := goodIn_app (goodIn_of _ (by decide +kernel)) ggL_law_X0_chart
set_option maxRecDepth 20000 in
theorem ggL_law_X1_chart : GoodIn wsL_law wsX1_chart := goodIn_r _ [318, 92, 48, 300, 301, 302, 5, 303, 280, 304, 305, 306, 307, 308, 278, 309, 279, 310, 93, 94, 95, 96, 97, 98, 349, 350, 351, 352, 353, 354, 355, 356, 357, 358, 359, 360] (by decide +kernel) (by decide +kernel)
set_option maxRecDepth 20000 in
theorem gL_law_X1_chart : GoodIn wsL_law (wsV RL 88 RX1 yX1_chart wsX1_chart) := goodIn_app (goodIn_of _ (by decide +kernel)) ggL_law_X1_chart
set_option maxRecDepth 20000 in
theorem ggL_law_X0_columns : GoodIn wsL_law wsX0_columns := goodIn_r _ [322, 26, 22, 290, 291, 292, 2, 293, 21, 294, 295, 83, 84, 85, 86, 25, 339, 340, 341, 342, 343, 344, 345, 346, 347, 348] (by decide +kernel) (by decide +kernel)
set_option maxRecDepth 20000 in
theorem gL_law_X0_columns : GoodIn wsL_law (wsV RL 89 RX0 yX0_columns wsX0_columns) := goodIn_app (goodIn_of _ (by decide +kernel)) ggL_law_X0_columns
set_option maxRecDepth 20000 in
theorem ggL_law_X1_columns : GoodIn wsL_law wsX1_columns := goodIn_r _ [326, 92, 280, 305, 306, 307, 5, 308, 278, 309, 279, 310, 93, 94, 95, 96, 97, 98, 349, 350, 351, 352, 353, 354, 355, 356, 357, 358, 359, 360] (by decide +kernel) (by decide +kernel)
set_option maxRecDepth 20000 in
theorem gL_law_X1_columns : GoodIn wsL_law (wsV RL 92 RX1 yX1_columns wsX1_columns) := goodIn_app (goodIn_of _ (by decide +kernel)) ggL_law_X1_columns
set_option maxRecDepth 20000 in
theorem ggL_law_X0_look : GoodIn wsL_law wsX0_look := goodIn_r _ [330, 27, 23, 24, 25, 26, 54, 331, 332, 333, 2, 334, 17, 339, 340, 341, 342, 343, 344, 345, 346, 347, 348] (by decide +kernel) (by decide +kernel)
set_option maxRecDepth 20000 in
theorem gL_law_X0_look : GoodIn wsL_law (wsV RL 93 RX0 yX0_look wsX0_look) := goodIn_app (goodIn_of _ (by decide +kernel)) ggL_law_X0_look
set_option maxRecDepth 20000 in
theorem ggL_law_X1_look : GoodIn wsL_law wsX1_look := goodIn_r _ [338, 46, 49, 264, 265, 97, 98, 62, 349, 350, 351, 352, 353, 354, 355, 356, 357, 358, 359, 360] (by decide +kernel) (by decide +kernel)
set_option maxRecDepth 20000 in
theorem gL_law_X1_look : GoodIn wsL_law (wsV RL 96 RX1 yX1_look wsX1_look) := goodIn_app (goodIn_of _ (by decide +kernel)) ggL_law_X1_look
theorem dL_law_0 : decode cL_law 0 = .ok (.new 7, 3) := by decide +kernel
theorem dL_law_3 : decode cL_law 3 = .ok (.dup, 1) := by decide +kernel
theorem dL_law_4 : decode cL_law 4 = .ok (.aload_n 0, 1) := by decide +kernel
theorem dL_law_5 : decode cL_law 5 = .ok (.iconst 0, 1) := by decide +kernel
theorem dL_law_6 : decode cL_law 6 = .ok (.invokestatic 9, 3) := by decide +kernel
theorem dL_law_9 : decode cL_law 9 = .ok (.invokespecial 15, 3) := by decide +kernel
theorem dL_law_12 : decode cL_law 12 = .ok (.astore_n 1, 1) := by decide +kernel
theorem dL_law_13 : decode cL_law 13 = .ok (.new 18, 3) := by decide +kernel
theorem dL_law_16 : decode cL_law 16 = .ok (.dup, 1) := by decide +kernel
theorem dL_law_17 : decode cL_law 17 = .ok (.aload_n 0, 1) := by decide +kernel
theorem dL_law_18 : decode cL_law 18 = .ok (.iconst 0, 1) := by decide +kernel
theorem dL_law_19 : decode cL_law 19 = .ok (.invokestatic 9, 3) := by decide +kernel
theorem dL_law_22 : decode cL_law 22 = .ok (.invokespecial 20, 3) := by decide +kernel
theorem dL_law_25 : decode cL_law 25 = .ok (.astore_n 2, 1) := by decide +kernel
theorem dL_law_26 : decode cL_law 26 = .ok (.iconst 1, 1) := by decide +kernel
theorem dL_law_27 : decode cL_law 27 = .ok (.istore_n 3, 1) := by decide +kernel
theorem dL_law_28 : decode cL_law 28 = .ok (.iload_n 3, 1) := by decide +kernel
theorem dL_law_29 : decode cL_law 29 = .ok (.aload_n 0, 1) := by decide +kernel
theorem dL_law_30 : decode cL_law 30 = .ok (.arraylength, 1) := by decide +kernel
theorem dL_law_31 : decode cL_law 31 = .ok (.iconst 5, 1) := by decide +kernel
theorem dL_law_32 : decode cL_law 32 = .ok (.isub, 1) := by decide +kernel
theorem dL_law_33 : decode cL_law 33 = .ok (.if_icmp .gt 665, 3) := by decide +kernel
theorem dL_law_36 : decode cL_law 36 = .ok (.aload_n 0, 1) := by decide +kernel
theorem dL_law_37 : decode cL_law 37 = .ok (.iload_n 3, 1) := by decide +kernel
theorem dL_law_38 : decode cL_law 38 = .ok (.iaload, 1) := by decide +kernel
theorem dL_law_39 : decode cL_law 39 = .ok (.bipush 31, 2) := by decide +kernel
theorem dL_law_41 : decode cL_law 41 = .ok (.iand, 1) := by decide +kernel
theorem dL_law_42 : decode cL_law 42 = .ok (.tableswitch 650 0 17 #[86, 119, 142, 165, 198, 241, 294, 317, 350, 383, 406, 429, 462, 485, 518, 571, 604, 627], 86) := by decide +kernel
theorem dL_law_128 : decode cL_law 128 = .ok (.aload_n 1, 1) := by decide +kernel
theorem dL_law_129 : decode cL_law 129 = .ok (.aload_n 0, 1) := by decide +kernel
theorem dL_law_130 : decode cL_law 130 = .ok (.iload_n 3, 1) := by decide +kernel
theorem dL_law_131 : decode cL_law 131 = .ok (.iconst 1, 1) := by decide +kernel
theorem dL_law_132 : decode cL_law 132 = .ok (.iadd, 1) := by decide +kernel
theorem dL_law_133 : decode cL_law 133 = .ok (.iaload, 1) := by decide +kernel
theorem dL_law_134 : decode cL_law 134 = .ok (.aload_n 0, 1) := by decide +kernel
theorem dL_law_135 : decode cL_law 135 = .ok (.iload_n 3, 1) := by decide +kernel
theorem dL_law_136 : decode cL_law 136 = .ok (.iconst 2, 1) := by decide +kernel
theorem dL_law_137 : decode cL_law 137 = .ok (.iadd, 1) := by decide +kernel
theorem dL_law_138 : decode cL_law 138 = .ok (.iaload, 1) := by decide +kernel
theorem dL_law_139 : decode cL_law 139 = .ok (.invokevirtual 21, 3) := by decide +kernel
theorem dL_law_142 : decode cL_law 142 = .ok (.aload_n 2, 1) := by decide +kernel
theorem dL_law_143 : decode cL_law 143 = .ok (.aload_n 0, 1) := by decide +kernel
theorem dL_law_144 : decode cL_law 144 = .ok (.iload_n 3, 1) := by decide +kernel
theorem dL_law_145 : decode cL_law 145 = .ok (.iconst 1, 1) := by decide +kernel
theorem dL_law_146 : decode cL_law 146 = .ok (.iadd, 1) := by decide +kernel
theorem dL_law_147 : decode cL_law 147 = .ok (.iaload, 1) := by decide +kernel
theorem dL_law_148 : decode cL_law 148 = .ok (.aload_n 0, 1) := by decide +kernel
theorem dL_law_149 : decode cL_law 149 = .ok (.iload_n 3, 1) := by decide +kernel
theorem dL_law_150 : decode cL_law 150 = .ok (.iconst 2, 1) := by decide +kernel
theorem dL_law_151 : decode cL_law 151 = .ok (.iadd, 1) := by decide +kernel
theorem dL_law_152 : decode cL_law 152 = .ok (.iaload, 1) := by decide +kernel
theorem dL_law_153 : decode cL_law 153 = .ok (.invokevirtual 25, 3) := by decide +kernel
theorem dL_law_156 : decode cL_law 156 = .ok (.if_icmp .eq 536, 3) := by decide +kernel
theorem dL_law_159 : decode cL_law 159 = .ok (.iconst 0, 1) := by decide +kernel
theorem dL_law_160 : decode cL_law 160 = .ok (.ireturn, 1) := by decide +kernel
theorem dL_law_161 : decode cL_law 161 = .ok (.aload_n 1, 1) := by decide +kernel
theorem dL_law_162 : decode cL_law 162 = .ok (.aload_n 0, 1) := by decide +kernel
theorem dL_law_163 : decode cL_law 163 = .ok (.iload_n 3, 1) := by decide +kernel
theorem dL_law_164 : decode cL_law 164 = .ok (.iconst 1, 1) := by decide +kernel
theorem dL_law_165 : decode cL_law 165 = .ok (.iadd, 1) := by decide +kernel
theorem dL_law_166 : decode cL_law 166 = .ok (.iaload, 1) := by decide +kernel
theorem dL_law_167 : decode cL_law 167 = .ok (.invokevirtual 26, 3) := by decide +kernel
theorem dL_law_170 : decode cL_law 170 = .ok (.aload_n 2, 1) := by decide +kernel
theorem dL_law_171 : decode cL_law 171 = .ok (.aload_n 0, 1) := by decide +kernel
theorem dL_law_172 : decode cL_law 172 = .ok (.iload_n 3, 1) := by decide +kernel
theorem dL_law_173 : decode cL_law 173 = .ok (.iconst 1, 1) := by decide +kernel
theorem dL_law_174 : decode cL_law 174 = .ok (.iadd, 1) := by decide +kernel
theorem dL_law_175 : decode cL_law 175 = .ok (.iaload, 1) := by decide +kernel
theorem dL_law_176 : decode cL_law 176 = .ok (.invokevirtual 30, 3) := by decide +kernel
theorem dL_law_179 : decode cL_law 179 = .ok (.if_icmp .eq 513, 3) := by decide +kernel
theorem dL_law_182 : decode cL_law 182 = .ok (.iconst 0, 1) := by decide +kernel
theorem dL_law_183 : decode cL_law 183 = .ok (.ireturn, 1) := by decide +kernel
theorem dL_law_184 : decode cL_law 184 = .ok (.aload_n 1, 1) := by decide +kernel
theorem dL_law_185 : decode cL_law 185 = .ok (.aload_n 0, 1) := by decide +kernel
theorem dL_law_186 : decode cL_law 186 = .ok (.iload_n 3, 1) := by decide +kernel
theorem dL_law_187 : decode cL_law 187 = .ok (.iconst 1, 1) := by decide +kernel
theorem dL_law_188 : decode cL_law 188 = .ok (.iadd, 1) := by decide +kernel
theorem dL_law_189 : decode cL_law 189 = .ok (.iaload, 1) := by decide +kernel
theorem dL_law_190 : decode cL_law 190 = .ok (.invokevirtual 31, 3) := by decide +kernel
theorem dL_law_193 : decode cL_law 193 = .ok (.aload_n 2, 1) := by decide +kernel
theorem dL_law_194 : decode cL_law 194 = .ok (.aload_n 0, 1) := by decide +kernel
theorem dL_law_195 : decode cL_law 195 = .ok (.iload_n 3, 1) := by decide +kernel
theorem dL_law_196 : decode cL_law 196 = .ok (.iconst 1, 1) := by decide +kernel
theorem dL_law_197 : decode cL_law 197 = .ok (.iadd, 1) := by decide +kernel
theorem dL_law_198 : decode cL_law 198 = .ok (.iaload, 1) := by decide +kernel
theorem dL_law_199 : decode cL_law 199 = .ok (.invokevirtual 34, 3) := by decide +kernel
theorem dL_law_202 : decode cL_law 202 = .ok (.if_icmp .eq 490, 3) := by decide +kernel
theorem dL_law_205 : decode cL_law 205 = .ok (.iconst 0, 1) := by decide +kernel
theorem dL_law_206 : decode cL_law 206 = .ok (.ireturn, 1) := by decide +kernel
theorem dL_law_207 : decode cL_law 207 = .ok (.aload_n 1, 1) := by decide +kernel
theorem dL_law_208 : decode cL_law 208 = .ok (.aload_n 0, 1) := by decide +kernel
theorem dL_law_209 : decode cL_law 209 = .ok (.iload_n 3, 1) := by decide +kernel
theorem dL_law_210 : decode cL_law 210 = .ok (.iconst 1, 1) := by decide +kernel
theorem dL_law_211 : decode cL_law 211 = .ok (.iadd, 1) := by decide +kernel
theorem dL_law_212 : decode cL_law 212 = .ok (.iaload, 1) := by decide +kernel
theorem dL_law_213 : decode cL_law 213 = .ok (.aload_n 0, 1) := by decide +kernel
theorem dL_law_214 : decode cL_law 214 = .ok (.iload_n 3, 1) := by decide +kernel
theorem dL_law_215 : decode cL_law 215 = .ok (.iconst 2, 1) := by decide +kernel
theorem dL_law_216 : decode cL_law 216 = .ok (.iadd, 1) := by decide +kernel
theorem dL_law_217 : decode cL_law 217 = .ok (.iaload, 1) := by decide +kernel
theorem dL_law_218 : decode cL_law 218 = .ok (.invokevirtual 35, 3) := by decide +kernel
theorem dL_law_221 : decode cL_law 221 = .ok (.aload_n 2, 1) := by decide +kernel
theorem dL_law_222 : decode cL_law 222 = .ok (.aload_n 0, 1) := by decide +kernel
theorem dL_law_223 : decode cL_law 223 = .ok (.iload_n 3, 1) := by decide +kernel
theorem dL_law_224 : decode cL_law 224 = .ok (.iconst 1, 1) := by decide +kernel
theorem dL_law_225 : decode cL_law 225 = .ok (.iadd, 1) := by decide +kernel
theorem dL_law_226 : decode cL_law 226 = .ok (.iaload, 1) := by decide +kernel
theorem dL_law_227 : decode cL_law 227 = .ok (.aload_n 0, 1) := by decide +kernel
theorem dL_law_228 : decode cL_law 228 = .ok (.iload_n 3, 1) := by decide +kernel
theorem dL_law_229 : decode cL_law 229 = .ok (.iconst 2, 1) := by decide +kernel
theorem dL_law_230 : decode cL_law 230 = .ok (.iadd, 1) := by decide +kernel
theorem dL_law_231 : decode cL_law 231 = .ok (.iaload, 1) := by decide +kernel
theorem dL_law_232 : decode cL_law 232 = .ok (.invokevirtual 38, 3) := by decide +kernel
theorem dL_law_235 : decode cL_law 235 = .ok (.if_icmp .eq 457, 3) := by decide +kernel
theorem dL_law_238 : decode cL_law 238 = .ok (.iconst 0, 1) := by decide +kernel
theorem dL_law_239 : decode cL_law 239 = .ok (.ireturn, 1) := by decide +kernel
theorem dL_law_240 : decode cL_law 240 = .ok (.aload_n 1, 1) := by decide +kernel
theorem dL_law_241 : decode cL_law 241 = .ok (.aload_n 0, 1) := by decide +kernel
theorem dL_law_242 : decode cL_law 242 = .ok (.iload_n 3, 1) := by decide +kernel
