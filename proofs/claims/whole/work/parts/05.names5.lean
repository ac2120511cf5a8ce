theorem dX1_gate_47 : decode cX1_gate 47 = .ok (.if_icmp .eq 8, 3) := by decide +kernel
theorem dX1_gate_50 : decode cX1_gate 50 = .ok (.iload_n 3, 1) := by decide +kernel
theorem dX1_gate_51 : decode cX1_gate 51 = .ok (.iconst 1, 1) := by decide +kernel
theorem dX1_gate_52 : decode cX1_gate 52 = .ok (.if_icmp .ne 9, 3) := by decide +kernel
theorem dX1_gate_55 : decode cX1_gate 55 = .ok (.iconst 1, 1) := by decide +kernel
theorem dX1_gate_56 : decode cX1_gate 56 = .ok (.iload_n 0, 1) := by decide +kernel
theorem dX1_gate_57 : decode cX1_gate 57 = .ok (.isub, 1) := by decide +kernel
theorem dX1_gate_58 : decode cX1_gate 58 = .ok (.goto 4, 3) := by decide +kernel
theorem dX1_gate_61 : decode cX1_gate 61 = .ok (.iload_n 0, 1) := by decide +kernel
theorem dX1_gate_62 : decode cX1_gate 62 = .ok (.ireturn, 1) := by decide +kernel
set_option maxRecDepth 20000 in
theorem ggX1_change_X1_isBook : GoodIn wsX1_change wsX1_isBook := goodIn_r _ [6] (by decide +kernel) (by decide +kernel)
set_option maxRecDepth 20000 in
theorem gX1_change_X1_isBook : GoodIn wsX1_change (va_wsS RX1 46 yX1_isBook wsX1_isBook) := goodIn_app (goodIn_of _ (by decide +kernel)) ggX1_change_X1_isBook
set_option maxRecDepth 20000 in
theorem ggX1_change_X1_isLoad : GoodIn wsX1_change wsX1_isLoad := goodIn_r _ [9] (by decide +kernel) (by decide +kernel)
set_option maxRecDepth 20000 in
theorem gX1_change_X1_isLoad : GoodIn wsX1_change (va_wsS RX1 58 yX1_isLoad wsX1_isLoad) := goodIn_app (goodIn_of _ (by decide +kernel)) ggX1_change_X1_isLoad
set_option maxRecDepth 20000 in
theorem ggX1_change_X1_cell : GoodIn wsX1_change wsX1_cell := goodIn_r _ [13, 14, 15, 16, 17, 5, 18, 2, 19, 20, 21, 42, 43, 44, 45, 46, 47, 48, 49, 50, 51, 52, 53] (by decide +kernel) (by decide +kernel)
set_option maxRecDepth 20000 in
theorem gX1_change_X1_cell : GoodIn wsX1_change (wsV RX1 55 RX1 yX1_cell wsX1_cell) := goodIn_app (goodIn_of _ (by decide +kernel)) ggX1_change_X1_cell
set_option maxRecDepth 20000 in
theorem ggX1_change_X1_gate : GoodIn wsX1_change wsX1_gate := goodIn_r _ [24] (by decide +kernel) (by decide +kernel)
set_option maxRecDepth 20000 in
theorem gX1_change_X1_gate : GoodIn wsX1_change (va_wsS RX1 65 yX1_gate wsX1_gate) := goodIn_app (goodIn_of _ (by decide +kernel)) ggX1_change_X1_gate
set_option maxRecDepth 20000 in
theorem ggX1_change_X1_put : GoodIn wsX1_change wsX1_put := goodIn_r _ [28, 14, 15, 16, 17, 5, 18, 2, 19, 20, 21, 29, 30, 31, 32, 33, 34, 35, 42, 43, 44, 45, 46, 47, 48, 49, 50, 51, 52, 53] (by decide +kernel) (by decide +kernel)
set_option maxRecDepth 20000 in
theorem gX1_change_X1_put : GoodIn wsX1_change (wsV RX1 61 RX1 yX1_put wsX1_put) := goodIn_app (goodIn_of _ (by decide +kernel)) ggX1_change_X1_put
set_option maxRecDepth 20000 in
theorem ggX1_change_X1_answer : GoodIn wsX1_change wsX1_answer := goodIn_r _ [39, 2, 40, 41, 42, 43, 44, 45, 46, 47, 48, 49, 50, 51, 52, 53] (by decide +kernel) (by decide +kernel)
set_option maxRecDepth 20000 in
theorem gX1_change_X1_answer : GoodIn wsX1_change (wsV RX1 51 RX1 yX1_answer wsX1_answer) := goodIn_app (goodIn_of _ (by decide +kernel)) ggX1_change_X1_answer
theorem dX1_change_0 : decode cX1_change 0 = .ok (.iload_n 1, 1) := by decide +kernel
theorem dX1_change_1 : decode cX1_change 1 = .ok (.invokestatic 46, 3) := by decide +kernel
theorem dX1_change_4 : decode cX1_change 4 = .ok (.ifCond .eq 16, 3) := by decide +kernel
theorem dX1_change_7 : decode cX1_change 7 = .ok (.iload_n 3, 1) := by decide +kernel
theorem dX1_change_8 : decode cX1_change 8 = .ok (.ifCond .lt 12, 3) := by decide +kernel
theorem dX1_change_11 : decode cX1_change 11 = .ok (.iload_n 3, 1) := by decide +kernel
theorem dX1_change_12 : decode cX1_change 12 = .ok (.iconst 4, 1) := by decide +kernel
theorem dX1_change_13 : decode cX1_change 13 = .ok (.if_icmp .ge 7, 3) := by decide +kernel
theorem dX1_change_16 : decode cX1_change 16 = .ok (.iconst 1, 1) := by decide +kernel
theorem dX1_change_17 : decode cX1_change 17 = .ok (.goto 4, 3) := by decide +kernel
theorem dX1_change_20 : decode cX1_change 20 = .ok (.iconst 0, 1) := by decide +kernel
theorem dX1_change_21 : decode cX1_change 21 = .ok (.istore 5, 2) := by decide +kernel
theorem dX1_change_23 : decode cX1_change 23 = .ok (.iload 5, 2) := by decide +kernel
theorem dX1_change_25 : decode cX1_change 25 = .ok (.ifCond .eq 21, 3) := by decide +kernel
theorem dX1_change_28 : decode cX1_change 28 = .ok (.iload_n 1, 1) := by decide +kernel
theorem dX1_change_29 : decode cX1_change 29 = .ok (.iconst 2, 1) := by decide +kernel
theorem dX1_change_30 : decode cX1_change 30 = .ok (.if_icmp .ne 19, 3) := by decide +kernel
theorem dX1_change_33 : decode cX1_change 33 = .ok (.iload_n 3, 1) := by decide +kernel
theorem dX1_change_34 : decode cX1_change 34 = .ok (.iconst 2, 1) := by decide +kernel
theorem dX1_change_35 : decode cX1_change 35 = .ok (.if_icmp .ge 14, 3) := by decide +kernel
theorem dX1_change_38 : decode cX1_change 38 = .ok (.iload 4, 2) := by decide +kernel
theorem dX1_change_40 : decode cX1_change 40 = .ok (.invokestatic 58, 3) := by decide +kernel
theorem dX1_change_43 : decode cX1_change 43 = .ok (.ifCond .ne 6, 3) := by decide +kernel
theorem dX1_change_46 : decode cX1_change 46 = .ok (.ldc 50, 2) := by decide +kernel
theorem dX1_change_48 : decode cX1_change 48 = .ok (.ireturn, 1) := by decide +kernel
theorem dX1_change_49 : decode cX1_change 49 = .ok (.aload_n 0, 1) := by decide +kernel
theorem dX1_change_50 : decode cX1_change 50 = .ok (.iconst 0, 1) := by decide +kernel
theorem dX1_change_51 : decode cX1_change 51 = .ok (.putfield 23, 3) := by decide +kernel
theorem dX1_change_54 : decode cX1_change 54 = .ok (.aload_n 0, 1) := by decide +kernel
theorem dX1_change_55 : decode cX1_change 55 = .ok (.iload_n 1, 1) := by decide +kernel
theorem dX1_change_56 : decode cX1_change 56 = .ok (.iload_n 2, 1) := by decide +kernel
theorem dX1_change_57 : decode cX1_change 57 = .ok (.invokevirtual 55, 3) := by decide +kernel
theorem dX1_change_60 : decode cX1_change 60 = .ok (.istore 6, 2) := by decide +kernel
theorem dX1_change_62 : decode cX1_change 62 = .ok (.iload_n 1, 1) := by decide +kernel
theorem dX1_change_63 : decode cX1_change 63 = .ok (.iconst 2, 1) := by decide +kernel
theorem dX1_change_64 : decode cX1_change 64 = .ok (.if_icmp .ne 8, 3) := by decide +kernel
theorem dX1_change_67 : decode cX1_change 67 = .ok (.bipush 8, 2) := by decide +kernel
theorem dX1_change_69 : decode cX1_change 69 = .ok (.goto 4, 3) := by decide +kernel
theorem dX1_change_72 : decode cX1_change 72 = .ok (.iconst 1, 1) := by decide +kernel
theorem dX1_change_73 : decode cX1_change 73 = .ok (.istore 7, 2) := by decide +kernel
theorem dX1_change_75 : decode cX1_change 75 = .ok (.iload_n 3, 1) := by decide +kernel
theorem dX1_change_76 : decode cX1_change 76 = .ok (.ifCond .ne 8, 3) := by decide +kernel
theorem dX1_change_79 : decode cX1_change 79 = .ok (.iload 4, 2) := by decide +kernel
theorem dX1_change_81 : decode cX1_change 81 = .ok (.goto 27, 3) := by decide +kernel
theorem dX1_change_84 : decode cX1_change 84 = .ok (.iload_n 3, 1) := by decide +kernel
theorem dX1_change_85 : decode cX1_change 85 = .ok (.iconst 1, 1) := by decide +kernel
theorem dX1_change_86 : decode cX1_change 86 = .ok (.if_icmp .ne 9, 3) := by decide +kernel
theorem dX1_change_89 : decode cX1_change 89 = .ok (.iload 4, 2) := by decide +kernel
theorem dX1_change_91 : decode cX1_change 91 = .ok (.ineg, 1) := by decide +kernel
theorem dX1_change_92 : decode cX1_change 92 = .ok (.goto 16, 3) := by decide +kernel
theorem dX1_change_95 : decode cX1_change 95 = .ok (.iload_n 3, 1) := by decide +kernel
theorem dX1_change_96 : decode cX1_change 96 = .ok (.iconst 2, 1) := by decide +kernel
theorem dX1_change_97 : decode cX1_change 97 = .ok (.if_icmp .ne 8, 3) := by decide +kernel
theorem dX1_change_100 : decode cX1_change 100 = .ok (.iload 7, 2) := by decide +kernel
theorem dX1_change_102 : decode cX1_change 102 = .ok (.goto 6, 3) := by decide +kernel
theorem dX1_change_105 : decode cX1_change 105 = .ok (.iload 7, 2) := by decide +kernel
theorem dX1_change_107 : decode cX1_change 107 = .ok (.ineg, 1) := by decide +kernel
theorem dX1_change_108 : decode cX1_change 108 = .ok (.istore 8, 2) := by decide +kernel
theorem dX1_change_110 : decode cX1_change 110 = .ok (.aload_n 0, 1) := by decide +kernel
theorem dX1_change_111 : decode cX1_change 111 = .ok (.iload_n 1, 1) := by decide +kernel
theorem dX1_change_112 : decode cX1_change 112 = .ok (.iload_n 2, 1) := by decide +kernel
theorem dX1_change_113 : decode cX1_change 113 = .ok (.iload_n 1, 1) := by decide +kernel
theorem dX1_change_114 : decode cX1_change 114 = .ok (.iconst 3, 1) := by decide +kernel
theorem dX1_change_115 : decode cX1_change 115 = .ok (.if_icmp .ne 14, 3) := by decide +kernel
theorem dX1_change_118 : decode cX1_change 118 = .ok (.iload 6, 2) := by decide +kernel
theorem dX1_change_120 : decode cX1_change 120 = .ok (.iload_n 3, 1) := by decide +kernel
theorem dX1_change_121 : decode cX1_change 121 = .ok (.iload 4, 2) := by decide +kernel
theorem dX1_change_123 : decode cX1_change 123 = .ok (.invokestatic 65, 3) := by decide +kernel
theorem dX1_change_126 : decode cX1_change 126 = .ok (.goto 8, 3) := by decide +kernel
theorem dX1_change_129 : decode cX1_change 129 = .ok (.iload 6, 2) := by decide +kernel
theorem dX1_change_131 : decode cX1_change 131 = .ok (.iload 8, 2) := by decide +kernel
theorem dX1_change_133 : decode cX1_change 133 = .ok (.iadd, 1) := by decide +kernel
theorem dX1_change_134 : decode cX1_change 134 = .ok (.invokevirtual 61, 3) := by decide +kernel
theorem dX1_change_137 : decode cX1_change 137 = .ok (.aload_n 0, 1) := by decide +kernel
theorem dX1_change_138 : decode cX1_change 138 = .ok (.iload_n 1, 1) := by decide +kernel
theorem dX1_change_139 : decode cX1_change 139 = .ok (.iload_n 2, 1) := by decide +kernel
theorem dX1_change_140 : decode cX1_change 140 = .ok (.invokevirtual 55, 3) := by decide +kernel
theorem dX1_change_143 : decode cX1_change 143 = .ok (.istore 9, 2) := by decide +kernel
theorem dX1_change_145 : decode cX1_change 145 = .ok (.aload_n 0, 1) := by decide +kernel
theorem dX1_change_146 : decode cX1_change 146 = .ok (.iload 9, 2) := by decide +kernel
theorem dX1_change_148 : decode cX1_change 148 = .ok (.invokevirtual 51, 3) := by decide +kernel
theorem dX1_change_151 : decode cX1_change 151 = .ok (.ireturn, 1) := by decide +kernel
set_option maxRecDepth 20000 in
theorem ggX1_tally_X1_isBook : GoodIn wsX1_tally wsX1_isBook := goodIn_r _ [9] (by decide +kernel) (by decide +kernel)
set_option maxRecDepth 20000 in
theorem gX1_tally_X1_isBook : GoodIn wsX1_tally (va_wsS RX1 46 yX1_isBook wsX1_isBook) := goodIn_app (goodIn_of _ (by decide +kernel)) ggX1_tally_X1_isBook
set_option maxRecDepth 20000 in
theorem ggX1_tally_X1_answer : GoodIn wsX1_tally wsX1_answer := goodIn_r _ [13, 4, 14, 15, 16, 17, 18, 19, 20, 21, 22, 23, 24, 25, 26, 27] (by decide +kernel) (by decide +kernel)
set_option maxRecDepth 20000 in
theorem gX1_tally_X1_answer : GoodIn wsX1_tally (wsV RX1 51 RX1 yX1_answer wsX1_answer) := goodIn_app (goodIn_of _ (by decide +kernel)) ggX1_tally_X1_answer
theorem dX1_tally_0 : decode cX1_tally 0 = .ok (.iload_n 1, 1) := by decide +kernel
theorem dX1_tally_1 : decode cX1_tally 1 = .ok (.invokestatic 46, 3) := by decide +kernel
theorem dX1_tally_4 : decode cX1_tally 4 = .ok (.ifCond .ne 6, 3) := by decide +kernel
theorem dX1_tally_7 : decode cX1_tally 7 = .ok (.ldc 50, 2) := by decide +kernel
theorem dX1_tally_9 : decode cX1_tally 9 = .ok (.ireturn, 1) := by decide +kernel
theorem dX1_tally_10 : decode cX1_tally 10 = .ok (.aload_n 0, 1) := by decide +kernel
theorem dX1_tally_11 : decode cX1_tally 11 = .ok (.aload_n 0, 1) := by decide +kernel
theorem dX1_tally_12 : decode cX1_tally 12 = .ok (.getfield 7, 3) := by decide +kernel
theorem dX1_tally_15 : decode cX1_tally 15 = .ok (.iload_n 1, 1) := by decide +kernel
theorem dX1_tally_16 : decode cX1_tally 16 = .ok (.iaload, 1) := by decide +kernel
theorem dX1_tally_17 : decode cX1_tally 17 = .ok (.ifCond .ge 10, 3) := by decide +kernel
theorem dX1_tally_20 : decode cX1_tally 20 = .ok (.ldc 26, 2) := by decide +kernel
theorem dX1_tally_22 : decode cX1_tally 22 = .ok (.iload_n 1, 1) := by decide +kernel
theorem dX1_tally_23 : decode cX1_tally 23 = .ok (.isub, 1) := by decide +kernel
theorem dX1_tally_24 : decode cX1_tally 24 = .ok (.goto 4, 3) := by decide +kernel
theorem dX1_tally_27 : decode cX1_tally 27 = .ok (.iconst 0, 1) := by decide +kernel
theorem dX1_tally_28 : decode cX1_tally 28 = .ok (.putfield 23, 3) := by decide +kernel
theorem dX1_tally_31 : decode cX1_tally 31 = .ok (.iconst 0, 1) := by decide +kernel
theorem dX1_tally_32 : decode cX1_tally 32 = .ok (.istore_n 2, 1) := by decide +kernel
theorem dX1_tally_33 : decode cX1_tally 33 = .ok (.iconst 0, 1) := by decide +kernel
theorem dX1_tally_34 : decode cX1_tally 34 = .ok (.istore_n 3, 1) := by decide +kernel
theorem dX1_tally_35 : decode cX1_tally 35 = .ok (.iload_n 3, 1) := by decide +kernel
theorem dX1_tally_36 : decode cX1_tally 36 = .ok (.aload_n 0, 1) := by decide +kernel
theorem dX1_tally_37 : decode cX1_tally 37 = .ok (.getfield 7, 3) := by decide +kernel
theorem dX1_tally_40 : decode cX1_tally 40 = .ok (.iload_n 1, 1) := by decide +kernel
theorem dX1_tally_41 : decode cX1_tally 41 = .ok (.iaload, 1) := by decide +kernel
theorem dX1_tally_42 : decode cX1_tally 42 = .ok (.if_icmp .ge 23, 3) := by decide +kernel
theorem dX1_tally_45 : decode cX1_tally 45 = .ok (.iload_n 2, 1) := by decide +kernel
theorem dX1_tally_46 : decode cX1_tally 46 = .ok (.aload_n 0, 1) := by decide +kernel
theorem dX1_tally_47 : decode cX1_tally 47 = .ok (.getfield 13, 3) := by decide +kernel
theorem dX1_tally_50 : decode cX1_tally 50 = .ok (.bipush 24, 2) := by decide +kernel
theorem dX1_tally_52 : decode cX1_tally 52 = .ok (.iload_n 1, 1) := by decide +kernel
theorem dX1_tally_53 : decode cX1_tally 53 = .ok (.imul, 1) := by decide +kernel
theorem dX1_tally_54 : decode cX1_tally 54 = .ok (.iload_n 3, 1) := by decide +kernel
theorem dX1_tally_55 : decode cX1_tally 55 = .ok (.iadd, 1) := by decide +kernel
theorem dX1_tally_56 : decode cX1_tally 56 = .ok (.iaload, 1) := by decide +kernel
theorem dX1_tally_57 : decode cX1_tally 57 = .ok (.iadd, 1) := by decide +kernel
theorem dX1_tally_58 : decode cX1_tally 58 = .ok (.istore_n 2, 1) := by decide +kernel
theorem dX1_tally_59 : decode cX1_tally 59 = .ok (.iinc 3 1, 3) := by decide +kernel
theorem dX1_tally_62 : decode cX1_tally 62 = .ok (.goto (-27), 3) := by decide +kernel
theorem dX1_tally_65 : decode cX1_tally 65 = .ok (.aload_n 0, 1) := by decide +kernel
theorem dX1_tally_66 : decode cX1_tally 66 = .ok (.iload_n 2, 1) := by decide +kernel
theorem dX1_tally_67 : decode cX1_tally 67 = .ok (.invokevirtual 51, 3) := by decide +kernel
theorem dX1_tally_70 : decode cX1_tally 70 = .ok (.ireturn, 1) := by decide +kernel
set_option maxRecDepth 20000 in
theorem ggX1_copy_X1_isBook : GoodIn wsX1_copy wsX1_isBook := goodIn_r _ [9] (by decide +kernel) (by decide +kernel)
set_option maxRecDepth 20000 in
theorem gX1_copy_X1_isBook : GoodIn wsX1_copy (va_wsS RX1 46 yX1_isBook wsX1_isBook) := goodIn_app (goodIn_of _ (by decide +kernel)) ggX1_copy_X1_isBook
set_option maxRecDepth 20000 in
theorem ggX1_copy_X1_put : GoodIn wsX1_copy wsX1_put := goodIn_r _ [13, 5, 14, 15, 16, 8, 17, 4, 2, 3, 18, 19, 20, 21, 22, 23, 24, 25, 32, 33, 34, 35, 36, 37, 38, 39, 40, 41, 42, 43] (by decide +kernel) (by decide +kernel)
set_option maxRecDepth 20000 in
theorem gX1_copy_X1_put : GoodIn wsX1_copy (wsV RX1 61 RX1 yX1_put wsX1_put) := goodIn_app (goodIn_of _ (by decide +kernel)) ggX1_copy_X1_put
set_option maxRecDepth 20000 in
theorem ggX1_copy_X1_answer : GoodIn wsX1_copy wsX1_answer := goodIn_r _ [29, 4, 30, 31, 32, 33, 34, 35, 36, 37, 38, 39, 40, 41, 42, 43] (by decide +kernel) (by decide +kernel)
set_option maxRecDepth 20000 in
theorem gX1_copy_X1_answer : GoodIn wsX1_copy (wsV RX1 51 RX1 yX1_answer wsX1_answer) := goodIn_app (goodIn_of _ (by decide +kernel)) ggX1_copy_X1_answer
theorem dX1_copy_0 : decode cX1_copy 0 = .ok (.iload_n 1, 1) := by decide +kernel
theorem dX1_copy_1 : decode cX1_copy 1 = .ok (.invokestatic 46, 3) := by decide +kernel
theorem dX1_copy_4 : decode cX1_copy 4 = .ok (.ifCond .eq 15, 3) := by decide +kernel
theorem dX1_copy_7 : decode cX1_copy 7 = .ok (.iload_n 2, 1) := by decide +kernel
theorem dX1_copy_8 : decode cX1_copy 8 = .ok (.invokestatic 46, 3) := by decide +kernel
theorem dX1_copy_11 : decode cX1_copy 11 = .ok (.ifCond .eq 8, 3) := by decide +kernel
theorem dX1_copy_14 : decode cX1_copy 14 = .ok (.iload_n 1, 1) := by decide +kernel
theorem dX1_copy_15 : decode cX1_copy 15 = .ok (.iload_n 2, 1) := by decide +kernel
theorem dX1_copy_16 : decode cX1_copy 16 = .ok (.if_icmp .ne 6, 3) := by decide +kernel
theorem dX1_copy_19 : decode cX1_copy 19 = .ok (.ldc 50, 2) := by decide +kernel
theorem dX1_copy_21 : decode cX1_copy 21 = .ok (.ireturn, 1) := by decide +kernel
theorem dX1_copy_22 : decode cX1_copy 22 = .ok (.aload_n 0, 1) := by decide +kernel
theorem dX1_copy_23 : decode cX1_copy 23 = .ok (.aload_n 0, 1) := by decide +kernel
theorem dX1_copy_24 : decode cX1_copy 24 = .ok (.getfield 7, 3) := by decide +kernel
theorem dX1_copy_27 : decode cX1_copy 27 = .ok (.iload_n 1, 1) := by decide +kernel
theorem dX1_copy_28 : decode cX1_copy 28 = .ok (.iaload, 1) := by decide +kernel
theorem dX1_copy_29 : decode cX1_copy 29 = .ok (.ifCond .ge 10, 3) := by decide +kernel
theorem dX1_copy_32 : decode cX1_copy 32 = .ok (.ldc 26, 2) := by decide +kernel
theorem dX1_copy_34 : decode cX1_copy 34 = .ok (.iload_n 1, 1) := by decide +kernel
theorem dX1_copy_35 : decode cX1_copy 35 = .ok (.isub, 1) := by decide +kernel
theorem dX1_copy_36 : decode cX1_copy 36 = .ok (.goto 4, 3) := by decide +kernel
theorem dX1_copy_39 : decode cX1_copy 39 = .ok (.iconst 0, 1) := by decide +kernel
theorem dX1_copy_40 : decode cX1_copy 40 = .ok (.putfield 23, 3) := by decide +kernel
theorem dX1_copy_43 : decode cX1_copy 43 = .ok (.iconst 0, 1) := by decide +kernel
theorem dX1_copy_44 : decode cX1_copy 44 = .ok (.istore_n 3, 1) := by decide +kernel
theorem dX1_copy_45 : decode cX1_copy 45 = .ok (.iload_n 3, 1) := by decide +kernel
theorem dX1_copy_46 : decode cX1_copy 46 = .ok (.aload_n 0, 1) := by decide +kernel
theorem dX1_copy_47 : decode cX1_copy 47 = .ok (.getfield 7, 3) := by decide +kernel
theorem dX1_copy_50 : decode cX1_copy 50 = .ok (.iload_n 1, 1) := by decide +kernel
theorem dX1_copy_51 : decode cX1_copy 51 = .ok (.iaload, 1) := by decide +kernel
theorem dX1_copy_52 : decode cX1_copy 52 = .ok (.if_icmp .ge 67, 3) := by decide +kernel
theorem dX1_copy_55 : decode cX1_copy 55 = .ok (.aload_n 0, 1) := by decide +kernel
theorem dX1_copy_56 : decode cX1_copy 56 = .ok (.getfield 13, 3) := by decide +kernel
theorem dX1_copy_59 : decode cX1_copy 59 = .ok (.bipush 24, 2) := by decide +kernel
theorem dX1_copy_61 : decode cX1_copy 61 = .ok (.iload_n 1, 1) := by decide +kernel
theorem dX1_copy_62 : decode cX1_copy 62 = .ok (.imul, 1) := by decide +kernel
theorem dX1_copy_63 : decode cX1_copy 63 = .ok (.iload_n 3, 1) := by decide +kernel
theorem dX1_copy_64 : decode cX1_copy 64 = .ok (.iadd, 1) := by decide +kernel
theorem dX1_copy_65 : decode cX1_copy 65 = .ok (.iaload, 1) := by decide +kernel
theorem dX1_copy_66 : decode cX1_copy 66 = .ok (.istore 4, 2) := by decide +kernel
theorem dX1_copy_68 : decode cX1_copy 68 = .ok (.iload_n 2, 1) := by decide +kernel
theorem dX1_copy_69 : decode cX1_copy 69 = .ok (.iconst 2, 1) := by decide +kernel
theorem dX1_copy_70 : decode cX1_copy 70 = .ok (.if_icmp .ne 35, 3) := by decide +kernel
theorem dX1_copy_73 : decode cX1_copy 73 = .ok (.iload 4, 2) := by decide +kernel
theorem dX1_copy_75 : decode cX1_copy 75 = .ok (.sipush 16000, 3) := by decide +kernel
theorem dX1_copy_78 : decode cX1_copy 78 = .ok (.if_icmp .le 9, 3) := by decide +kernel
theorem dX1_copy_81 : decode cX1_copy 81 = .ok (.sipush 16000, 3) := by decide +kernel
theorem dX1_copy_84 : decode cX1_copy 84 = .ok (.goto 19, 3) := by decide +kernel
theorem dX1_copy_87 : decode cX1_copy 87 = .ok (.iload 4, 2) := by decide +kernel
theorem dX1_copy_89 : decode cX1_copy 89 = .ok (.sipush (-16000), 3) := by decide +kernel
theorem dX1_copy_92 : decode cX1_copy 92 = .ok (.if_icmp .ge 9, 3) := by decide +kernel
theorem dX1_copy_95 : decode cX1_copy 95 = .ok (.sipush (-16000), 3) := by decide +kernel
theorem dX1_copy_98 : decode cX1_copy 98 = .ok (.goto 5, 3) := by decide +kernel
theorem dX1_copy_101 : decode cX1_copy 101 = .ok (.iload 4, 2) := by decide +kernel
theorem dX1_copy_103 : decode cX1_copy 103 = .ok (.istore 4, 2) := by decide +kernel
theorem dX1_copy_105 : decode cX1_copy 105 = .ok (.aload_n 0, 1) := by decide +kernel
theorem dX1_copy_106 : decode cX1_copy 106 = .ok (.iload_n 2, 1) := by decide +kernel
theorem dX1_copy_107 : decode cX1_copy 107 = .ok (.iload_n 3, 1) := by decide +kernel
theorem dX1_copy_108 : decode cX1_copy 108 = .ok (.iload 4, 2) := by decide +kernel
theorem dX1_copy_110 : decode cX1_copy 110 = .ok (.invokevirtual 61, 3) := by decide +kernel
theorem dX1_copy_113 : decode cX1_copy 113 = .ok (.iinc 3 1, 3) := by decide +kernel
theorem dX1_copy_116 : decode cX1_copy 116 = .ok (.goto (-71), 3) := by decide +kernel
theorem dX1_copy_119 : decode cX1_copy 119 = .ok (.aload_n 0, 1) := by decide +kernel
theorem dX1_copy_120 : decode cX1_copy 120 = .ok (.aload_n 0, 1) := by decide +kernel
theorem dX1_copy_121 : decode cX1_copy 121 = .ok (.getfield 7, 3) := by decide +kernel
theorem dX1_copy_124 : decode cX1_copy 124 = .ok (.iload_n 1, 1) := by decide +kernel
theorem dX1_copy_125 : decode cX1_copy 125 = .ok (.iaload, 1) := by decide +kernel
theorem dX1_copy_126 : decode cX1_copy 126 = .ok (.invokevirtual 51, 3) := by decide +kernel
theorem dX1_copy_129 : decode cX1_copy 129 = .ok (.ireturn, 1) := by decide +kernel
set_option maxRecDepth 20000 in
theorem ggX1_sluice_X1_isChamber : GoodIn wsX1_sluice wsX1_isChamber := goodIn_r _ [8, 3, 38, 39, 40, 41, 42, 43, 44, 45, 46, 47, 48, 49] (by decide +kernel) (by decide +kernel)
set_option maxRecDepth 20000 in
theorem gX1_sluice_X1_isChamber : GoodIn wsX1_sluice (wsV RX1 69 RX1 yX1_isChamber wsX1_isChamber) := goodIn_app (goodIn_of _ (by decide +kernel)) ggX1_sluice_X1_isChamber
set_option maxRecDepth 20000 in
theorem ggX1_sluice_X1_more : GoodIn wsX1_sluice wsX1_more := goodIn_r _ [12, 13, 14, 15, 16, 7, 17, 2, 18, 19, 20, 21, 22, 23, 24, 25, 26, 27, 38, 39, 40, 41, 42, 43, 44, 45, 46, 47, 48, 49] (by decide +kernel) (by decide +kernel)
set_option maxRecDepth 20000 in
theorem gX1_sluice_X1_more : GoodIn wsX1_sluice (wsV RX1 72 RX1 yX1_more wsX1_more) := goodIn_app (goodIn_of _ (by decide +kernel)) ggX1_sluice_X1_more
set_option maxRecDepth 20000 in
theorem ggX1_sluice_X1_cell : GoodIn wsX1_sluice wsX1_cell := goodIn_r _ [31, 13, 14, 15, 16, 7, 17, 2, 18, 19, 20, 38, 39, 40, 41, 42, 43, 44, 45, 46, 47, 48, 49] (by decide +kernel) (by decide +kernel)
set_option maxRecDepth 20000 in
theorem gX1_sluice_X1_cell : GoodIn wsX1_sluice (wsV RX1 55 RX1 yX1_cell wsX1_cell) := goodIn_app (goodIn_of _ (by decide +kernel)) ggX1_sluice_X1_cell
set_option maxRecDepth 20000 in
theorem ggX1_sluice_X1_answer : GoodIn wsX1_sluice wsX1_answer := goodIn_r _ [35, 2, 36, 37, 38, 39, 40, 41, 42, 43, 44, 45, 46, 47, 48, 49] (by decide +kernel) (by decide +kernel)
set_option maxRecDepth 20000 in
theorem gX1_sluice_X1_answer : GoodIn wsX1_sluice (wsV RX1 51 RX1 yX1_answer wsX1_answer) := goodIn_app (goodIn_of _ (by decide +kernel)) ggX1_sluice_X1_answer
theorem dX1_sluice_0 : decode cX1_sluice 0 = .ok (.aload_n 0, 1) := by decide +kernel
theorem dX1_sluice_1 : decode cX1_sluice 1 = .ok (.iload_n 1, 1) := by decide +kernel
theorem dX1_sluice_2 : decode cX1_sluice 2 = .ok (.invokevirtual 69, 3) := by decide +kernel
theorem dX1_sluice_5 : decode cX1_sluice 5 = .ok (.ifCond .ne 6, 3) := by decide +kernel
theorem dX1_sluice_8 : decode cX1_sluice 8 = .ok (.ldc 50, 2) := by decide +kernel
theorem dX1_sluice_10 : decode cX1_sluice 10 = .ok (.ireturn, 1) := by decide +kernel
theorem dX1_sluice_11 : decode cX1_sluice 11 = .ok (.aload_n 0, 1) := by decide +kernel
theorem dX1_sluice_12 : decode cX1_sluice 12 = .ok (.iconst 0, 1) := by decide +kernel
theorem dX1_sluice_13 : decode cX1_sluice 13 = .ok (.putfield 23, 3) := by decide +kernel
theorem dX1_sluice_16 : decode cX1_sluice 16 = .ok (.aload_n 0, 1) := by decide +kernel
theorem dX1_sluice_17 : decode cX1_sluice 17 = .ok (.iconst 1, 1) := by decide +kernel
theorem dX1_sluice_18 : decode cX1_sluice 18 = .ok (.iload_n 1, 1) := by decide +kernel
theorem dX1_sluice_19 : decode cX1_sluice 19 = .ok (.iload_n 2, 1) := by decide +kernel
theorem dX1_sluice_20 : decode cX1_sluice 20 = .ok (.ineg, 1) := by decide +kernel
theorem dX1_sluice_21 : decode cX1_sluice 21 = .ok (.invokevirtual 72, 3) := by decide +kernel
theorem dX1_sluice_24 : decode cX1_sluice 24 = .ok (.aload_n 0, 1) := by decide +kernel
theorem dX1_sluice_25 : decode cX1_sluice 25 = .ok (.iconst 1, 1) := by decide +kernel
theorem dX1_sluice_26 : decode cX1_sluice 26 = .ok (.iload_n 1, 1) := by decide +kernel
theorem dX1_sluice_27 : decode cX1_sluice 27 = .ok (.invokevirtual 55, 3) := by decide +kernel
theorem dX1_sluice_30 : decode cX1_sluice 30 = .ok (.istore_n 3, 1) := by decide +kernel
theorem dX1_sluice_31 : decode cX1_sluice 31 = .ok (.iload_n 1, 1) := by decide +kernel
theorem dX1_sluice_32 : decode cX1_sluice 32 = .ok (.iconst 1, 1) := by decide +kernel
theorem dX1_sluice_33 : decode cX1_sluice 33 = .ok (.iadd, 1) := by decide +kernel
theorem dX1_sluice_34 : decode cX1_sluice 34 = .ok (.aload_n 0, 1) := by decide +kernel
theorem dX1_sluice_35 : decode cX1_sluice 35 = .ok (.getfield 19, 3) := by decide +kernel
theorem dX1_sluice_38 : decode cX1_sluice 38 = .ok (.if_icmp .ge 12, 3) := by decide +kernel
theorem dX1_sluice_41 : decode cX1_sluice 41 = .ok (.aload_n 0, 1) := by decide +kernel
theorem dX1_sluice_42 : decode cX1_sluice 42 = .ok (.iconst 1, 1) := by decide +kernel
theorem dX1_sluice_43 : decode cX1_sluice 43 = .ok (.iload_n 1, 1) := by decide +kernel
theorem dX1_sluice_44 : decode cX1_sluice 44 = .ok (.iconst 1, 1) := by decide +kernel
theorem dX1_sluice_45 : decode cX1_sluice 45 = .ok (.iadd, 1) := by decide +kernel
theorem dX1_sluice_46 : decode cX1_sluice 46 = .ok (.iload_n 2, 1) := by decide +kernel
theorem dX1_sluice_47 : decode cX1_sluice 47 = .ok (.invokevirtual 72, 3) := by decide +kernel
theorem dX1_sluice_50 : decode cX1_sluice 50 = .ok (.aload_n 0, 1) := by decide +kernel
theorem dX1_sluice_51 : decode cX1_sluice 51 = .ok (.iload_n 3, 1) := by decide +kernel
theorem dX1_sluice_52 : decode cX1_sluice 52 = .ok (.invokevirtual 51, 3) := by decide +kernel
theorem dX1_sluice_55 : decode cX1_sluice 55 = .ok (.ireturn, 1) := by decide +kernel
set_option maxRecDepth 20000 in
theorem ggX1_open_X1_isChamber : GoodIn wsX1_open wsX1_isChamber := goodIn_r _ [8, 3, 38, 39, 40, 41, 42, 43, 44, 45, 46, 47, 48, 49] (by decide +kernel) (by decide +kernel)
set_option maxRecDepth 20000 in
theorem gX1_open_X1_isChamber : GoodIn wsX1_open (wsV RX1 69 RX1 yX1_isChamber wsX1_isChamber) := goodIn_app (goodIn_of _ (by decide +kernel)) ggX1_open_X1_isChamber
set_option maxRecDepth 20000 in
theorem ggX1_open_X1_cell : GoodIn wsX1_open wsX1_cell := goodIn_r _ [12, 13, 14, 15, 16, 7, 17, 2, 18, 19, 20, 38, 39, 40, 41, 42, 43, 44, 45, 46, 47, 48, 49] (by decide +kernel) (by decide +kernel)
set_option maxRecDepth 20000 in
theorem gX1_open_X1_cell : GoodIn wsX1_open (wsV RX1 55 RX1 yX1_cell wsX1_cell) := goodIn_app (goodIn_of _ (by decide +kernel)) ggX1_open_X1_cell
set_option maxRecDepth 20000 in
theorem ggX1_open_X1_put : GoodIn wsX1_open wsX1_put := goodIn_r _ [24, 13, 14, 15, 16, 7, 17, 2, 18, 19, 20, 25, 26, 27, 28, 29, 30, 31, 38, 39, 40, 41, 42, 43, 44, 45, 46, 47, 48, 49] (by decide +kernel) (by decide +kernel)
set_option maxRecDepth 20000 in
theorem gX1_open_X1_put : GoodIn wsX1_open (wsV RX1 61 RX1 yX1_put wsX1_put) := goodIn_app (goodIn_of _ (by decide +kernel)) ggX1_open_X1_put
set_option maxRecDepth 20000 in
theorem ggX1_open_X1_answer : GoodIn wsX1_open wsX1_answer := goodIn_r _ [35, 2, 36, 37, 38, 39, 40, 41, 42, 43, 44, 45, 46, 47, 48, 49] (by decide +kernel) (by decide +kernel)
set_option maxRecDepth 20000 in
theorem gX1_open_X1_answer : GoodIn wsX1_open (wsV RX1 51 RX1 yX1_answer wsX1_answer) := goodIn_app (goodIn_of _ (by decide +kernel)) ggX1_open_X1_answer
theorem dX1_open_0 : decode cX1_open 0 = .ok (.aload_n 0, 1) := by decide +kernel
theorem dX1_open_1 : decode cX1_open 1 = .ok (.iload_n 1, 1) := by decide +kernel
theorem dX1_open_2 : decode cX1_open 2 = .ok (.invokevirtual 69, 3) := by decide +kernel
theorem dX1_open_5 : decode cX1_open 5 = .ok (.ifCond .ne 6, 3) := by decide +kernel
theorem dX1_open_8 : decode cX1_open 8 = .ok (.ldc 50, 2) := by decide +kernel
theorem dX1_open_10 : decode cX1_open 10 = .ok (.ireturn, 1) := by decide +kernel
theorem dX1_open_11 : decode cX1_open 11 = .ok (.aload_n 0, 1) := by decide +kernel
theorem dX1_open_12 : decode cX1_open 12 = .ok (.iconst 0, 1) := by decide +kernel
theorem dX1_open_13 : decode cX1_open 13 = .ok (.putfield 23, 3) := by decide +kernel
theorem dX1_open_16 : decode cX1_open 16 = .ok (.aload_n 0, 1) := by decide +kernel
theorem dX1_open_17 : decode cX1_open 17 = .ok (.iconst 1, 1) := by decide +kernel
theorem dX1_open_18 : decode cX1_open 18 = .ok (.iload_n 1, 1) := by decide +kernel
theorem dX1_open_19 : decode cX1_open 19 = .ok (.invokevirtual 55, 3) := by decide +kernel
theorem dX1_open_22 : decode cX1_open 22 = .ok (.istore_n 2, 1) := by decide +kernel
theorem dX1_open_23 : decode cX1_open 23 = .ok (.iload_n 1, 1) := by decide +kernel
theorem dX1_open_24 : decode cX1_open 24 = .ok (.iconst 1, 1) := by decide +kernel
theorem dX1_open_25 : decode cX1_open 25 = .ok (.iadd, 1) := by decide +kernel
theorem dX1_open_26 : decode cX1_open 26 = .ok (.aload_n 0, 1) := by decide +kernel
theorem dX1_open_27 : decode cX1_open 27 = .ok (.getfield 19, 3) := by decide +kernel
theorem dX1_open_30 : decode cX1_open 30 = .ok (.if_icmp .ge 14, 3) := by decide +kernel
theorem dX1_open_33 : decode cX1_open 33 = .ok (.aload_n 0, 1) := by decide +kernel
theorem dX1_open_34 : decode cX1_open 34 = .ok (.iconst 1, 1) := by decide +kernel
theorem dX1_open_35 : decode cX1_open 35 = .ok (.iload_n 1, 1) := by decide +kernel
theorem dX1_open_36 : decode cX1_open 36 = .ok (.iconst 1, 1) := by decide +kernel
theorem dX1_open_37 : decode cX1_open 37 = .ok (.iadd, 1) := by decide +kernel
theorem dX1_open_38 : decode cX1_open 38 = .ok (.invokevirtual 55, 3) := by decide +kernel
theorem dX1_open_41 : decode cX1_open 41 = .ok (.goto 4, 3) := by decide +kernel
theorem dX1_open_44 : decode cX1_open 44 = .ok (.iconst 0, 1) := by decide +kernel
theorem dX1_open_45 : decode cX1_open 45 = .ok (.istore_n 3, 1) := by decide +kernel
theorem dX1_open_46 : decode cX1_open 46 = .ok (.aload_n 0, 1) := by decide +kernel
theorem dX1_open_47 : decode cX1_open 47 = .ok (.getfield 23, 3) := by decide +kernel
theorem dX1_open_50 : decode cX1_open 50 = .ok (.ifCond .ne 11, 3) := by decide +kernel
theorem dX1_open_53 : decode cX1_open 53 = .ok (.iload_n 2, 1) := by decide +kernel
theorem dX1_open_54 : decode cX1_open 54 = .ok (.iload_n 3, 1) := by decide +kernel
theorem dX1_open_55 : decode cX1_open 55 = .ok (.if_icmp .eq 6, 3) := by decide +kernel
theorem dX1_open_58 : decode cX1_open 58 = .ok (.bipush (-2), 2) := by decide +kernel
theorem dX1_open_60 : decode cX1_open 60 = .ok (.ireturn, 1) := by decide +kernel
theorem dX1_open_61 : decode cX1_open 61 = .ok (.aload_n 0, 1) := by decide +kernel
theorem dX1_open_62 : decode cX1_open 62 = .ok (.iconst 3, 1) := by decide +kernel
theorem dX1_open_63 : decode cX1_open 63 = .ok (.iload_n 1, 1) := by decide +kernel
theorem dX1_open_64 : decode cX1_open 64 = .ok (.iconst 1, 1) := by decide +kernel
theorem dX1_open_65 : decode cX1_open 65 = .ok (.invokevirtual 61, 3) := by decide +kernel
theorem dX1_open_68 : decode cX1_open 68 = .ok (.aload_n 0, 1) := by decide +kernel
theorem dX1_open_69 : decode cX1_open 69 = .ok (.iconst 0, 1) := by decide +kernel
theorem dX1_open_70 : decode cX1_open 70 = .ok (.invokevirtual 51, 3) := by decide +kernel
theorem dX1_open_73 : decode cX1_open 73 = .ok (.ireturn, 1) := by decide +kernel
set_option maxRecDepth 20000 in
theorem ggX1_shut_X1_isChamber : GoodIn wsX1_shut wsX1_isChamber := goodIn_r _ [7, 8, 38, 39, 40, 41, 42, 43, 44, 45, 46, 47, 48, 49] (by decide +kernel) (by decide +kernel)
set_option maxRecDepth 20000 in
theorem gX1_shut_X1_isChamber : GoodIn wsX1_shut (wsV RX1 69 RX1 yX1_isChamber wsX1_isChamber) := goodIn_app (goodIn_of _ (by decide +kernel)) ggX1_shut_X1_isChamber
set_option maxRecDepth 20000 in
theorem ggX1_shut_X1_cell : GoodIn wsX1_shut wsX1_cell := goodIn_r _ [12, 13, 14, 15, 16, 6, 17, 2, 18, 19, 20, 38, 39, 40, 41, 42, 43, 44, 45, 46, 47, 48, 49] (by decide +kernel) (by decide +kernel)
set_option maxRecDepth 20000 in
theorem gX1_shut_X1_cell : GoodIn wsX1_shut (wsV RX1 55 RX1 yX1_cell wsX1_cell) := goodIn_app (goodIn_of _ (by decide +kernel)) ggX1_shut_X1_cell
set_option maxRecDepth 20000 in
theorem ggX1_shut_X1_put : GoodIn wsX1_shut wsX1_put := goodIn_r _ [24, 13, 14, 15, 16, 6, 17, 2, 18, 19, 20, 25, 26, 27, 28, 29, 30, 31, 38, 39, 40, 41, 42, 43, 44, 45, 46, 47, 48, 49] (by decide +kernel) (by decide +kernel)
set_option maxRecDepth 20000 in
theorem gX1_shut_X1_put : GoodIn wsX1_shut (wsV RX1 61 RX1 yX1_put wsX1_put) := goodIn_app (goodIn_of _ (by decide +kernel)) ggX1_shut_X1_put
set_option maxRecDepth 20000 in
theorem ggX1_shut_X1_answer : GoodIn wsX1_shut wsX1_answer := goodIn_r _ [35, 2, 36, 37, 38, 39, 40, 41, 42, 43, 44, 45, 46, 47, 48, 49] (by decide +kernel) (by decide +kernel)
set_option maxRecDepth 20000 in
theorem gX1_shut_X1_answer : GoodIn wsX1_shut (wsV RX1 51 RX1 yX1_answer wsX1_answer) := goodIn_app (goodIn_of _ (by decide +kernel)) ggX1_shut_X1_answer
theorem dX1_shut_0 : decode cX1_shut 0 = .ok (.aload_n 0, 1) := by decide +kernel
theorem dX1_shut_1 : decode cX1_shut 1 = .ok (.iload_n 1, 1) := by decide +kernel
theorem dX1_shut_2 : decode cX1_shut 2 = .ok (.invokevirtual 69, 3) := by decide +kernel
theorem dX1_shut_5 : decode cX1_shut 5 = .ok (.ifCond .ne 6, 3) := by decide +kernel
theorem dX1_shut_8 : decode cX1_shut 8 = .ok (.ldc 50, 2) := by decide +kernel
theorem dX1_shut_10 : decode cX1_shut 10 = .ok (.ireturn, 1) := by decide +kernel
theorem dX1_shut_11 : decode cX1_shut 11 = .ok (.aload_n 0, 1) := by decide +kernel
theorem dX1_shut_12 : decode cX1_shut 12 = .ok (.iconst 0, 1) := by decide +kernel
theorem dX1_shut_13 : decode cX1_shut 13 = .ok (.putfield 23, 3) := by decide +kernel
theorem dX1_shut_16 : decode cX1_shut 16 = .ok (.aload_n 0, 1) := by decide +kernel
theorem dX1_shut_17 : decode cX1_shut 17 = .ok (.iconst 3, 1) := by decide +kernel
theorem dX1_shut_18 : decode cX1_shut 18 = .ok (.iload_n 1, 1) := by decide +kernel
theorem dX1_shut_19 : decode cX1_shut 19 = .ok (.invokevirtual 55, 3) := by decide +kernel
theorem dX1_shut_22 : decode cX1_shut 22 = .ok (.istore_n 2, 1) := by decide +kernel
theorem dX1_shut_23 : decode cX1_shut 23 = .ok (.aload_n 0, 1) := by decide +kernel
theorem dX1_shut_24 : decode cX1_shut 24 = .ok (.iconst 3, 1) := by decide +kernel
theorem dX1_shut_25 : decode cX1_shut 25 = .ok (.iload_n 1, 1) := by decide +kernel
theorem dX1_shut_26 : decode cX1_shut 26 = .ok (.iconst 0, 1) := by decide +kernel
theorem dX1_shut_27 : decode cX1_shut 27 = .ok (.invokevirtual 61, 3) := by decide +kernel
theorem dX1_shut_30 : decode cX1_shut 30 = .ok (.aload_n 0, 1) := by decide +kernel
theorem dX1_shut_31 : decode cX1_shut 31 = .ok (.iload_n 2, 1) := by decide +kernel
theorem dX1_shut_32 : decode cX1_shut 32 = .ok (.invokevirtual 51, 3) := by decide +kernel
theorem dX1_shut_35 : decode cX1_shut 35 = .ok (.ireturn, 1) := by decide +kernel
set_option maxRecDepth 20000 in
theorem ggX1_enter_X1_cell : GoodIn wsX1_enter wsX1_cell := goodIn_r _ [8, 9, 10, 11, 12, 7, 13, 3, 14, 15, 16, 37, 38, 39, 40, 41, 42, 43, 44, 45, 46, 47, 48] (by decide +kernel) (by decide +kernel)
set_option maxRecDepth 20000 in
theorem gX1_enter_X1_cell : GoodIn wsX1_enter (wsV RX1 55 RX1 yX1_cell wsX1_cell) := goodIn_app (goodIn_of _ (by decide +kernel)) ggX1_enter_X1_cell
set_option maxRecDepth 20000 in
theorem ggX1_enter_X1_put : GoodIn wsX1_enter wsX1_put := goodIn_r _ [20, 9, 10, 11, 12, 7, 13, 3, 14, 15, 16, 21, 22, 23, 1, 24, 25, 26, 37, 38, 39, 40, 41, 42, 43, 44, 45, 46, 47, 48] (by decide +kernel) (by decide +kernel)
set_option maxRecDepth 20000 in
theorem gX1_enter_X1_put : GoodIn wsX1_enter (wsV RX1 61 RX1 yX1_put wsX1_put) := goodIn_app (goodIn_of _ (by decide +kernel)) ggX1_enter_X1_put
set_option maxRecDepth 20000 in
theorem ggX1_enter_X1_more : GoodIn wsX1_enter wsX1_more := goodIn_r _ [30, 9, 10, 11, 12, 7, 13, 3, 14, 15, 16, 21, 22, 23, 1, 24, 25, 26, 37, 38, 39, 40, 41, 42, 43, 44, 45, 46, 47, 48] (by decide +kernel) (by decide +kernel)
set_option maxRecDepth 20000 in
theorem gX1_enter_X1_more : GoodIn wsX1_enter (wsV RX1 72 RX1 yX1_more wsX1_more) := goodIn_app (goodIn_of _ (by decide +kernel)) ggX1_enter_X1_more
set_option maxRecDepth 20000 in
theorem ggX1_enter_X1_answer : GoodIn wsX1_enter wsX1_answer := goodIn_r _ [34, 3, 35, 36, 37, 38, 39, 40, 41, 42, 43, 44, 45, 46, 47, 48] (by decide +kernel) (by decide +kernel)
set_option maxRecDepth 20000 in
theorem gX1_enter_X1_answer : GoodIn wsX1_enter (wsV RX1 51 RX1 yX1_answer wsX1_answer) := goodIn_app (goodIn_of _ (by decide +kernel)) ggX1_enter_X1_answer
theorem dX1_enter_0 : decode cX1_enter 0 = .ok (.iload_n 1, 1) := by decide +kernel
theorem dX1_enter_1 : decode cX1_enter 1 = .ok (.ldc 32, 2) := by decide +kernel
theorem dX1_enter_3 : decode cX1_enter 3 = .ok (.iand, 1) := by decide +kernel
theorem dX1_enter_4 : decode cX1_enter 4 = .ok (.ifCond .eq 14, 3) := by decide +kernel
theorem dX1_enter_7 : decode cX1_enter 7 = .ok (.iload_n 2, 1) := by decide +kernel
theorem dX1_enter_8 : decode cX1_enter 8 = .ok (.ifCond .lt 10, 3) := by decide +kernel
theorem dX1_enter_11 : decode cX1_enter 11 = .ok (.iload_n 2, 1) := by decide +kernel
theorem dX1_enter_12 : decode cX1_enter 12 = .ok (.sipush 16000, 3) := by decide +kernel
theorem dX1_enter_15 : decode cX1_enter 15 = .ok (.if_icmp .le 6, 3) := by decide +kernel
theorem dX1_enter_18 : decode cX1_enter 18 = .ok (.ldc 50, 2) := by decide +kernel
theorem dX1_enter_20 : decode cX1_enter 20 = .ok (.ireturn, 1) := by decide +kernel
theorem dX1_enter_21 : decode cX1_enter 21 = .ok (.aload_n 0, 1) := by decide +kernel
theorem dX1_enter_22 : decode cX1_enter 22 = .ok (.iconst 0, 1) := by decide +kernel
theorem dX1_enter_23 : decode cX1_enter 23 = .ok (.putfield 23, 3) := by decide +kernel
theorem dX1_enter_26 : decode cX1_enter 26 = .ok (.aload_n 0, 1) := by decide +kernel
theorem dX1_enter_27 : decode cX1_enter 27 = .ok (.iconst 0, 1) := by decide +kernel
theorem dX1_enter_28 : decode cX1_enter 28 = .ok (.iconst 0, 1) := by decide +kernel
theorem dX1_enter_29 : decode cX1_enter 29 = .ok (.invokevirtual 55, 3) := by decide +kernel
theorem dX1_enter_32 : decode cX1_enter 32 = .ok (.istore_n 3, 1) := by decide +kernel
theorem dX1_enter_33 : decode cX1_enter 33 = .ok (.aload_n 0, 1) := by decide +kernel
theorem dX1_enter_34 : decode cX1_enter 34 = .ok (.getfield 23, 3) := by decide +kernel
theorem dX1_enter_37 : decode cX1_enter 37 = .ok (.ifCond .ne 10, 3) := by decide +kernel
theorem dX1_enter_40 : decode cX1_enter 40 = .ok (.iload_n 3, 1) := by decide +kernel
theorem dX1_enter_41 : decode cX1_enter 41 = .ok (.ifCond .eq 6, 3) := by decide +kernel
theorem dX1_enter_44 : decode cX1_enter 44 = .ok (.bipush (-2), 2) := by decide +kernel
theorem dX1_enter_46 : decode cX1_enter 46 = .ok (.ireturn, 1) := by decide +kernel
theorem dX1_enter_47 : decode cX1_enter 47 = .ok (.aload_n 0, 1) := by decide +kernel
theorem dX1_enter_48 : decode cX1_enter 48 = .ok (.iconst 1, 1) := by decide +kernel
theorem dX1_enter_49 : decode cX1_enter 49 = .ok (.iconst 0, 1) := by decide +kernel
theorem dX1_enter_50 : decode cX1_enter 50 = .ok (.invokevirtual 55, 3) := by decide +kernel
theorem dX1_enter_53 : decode cX1_enter 53 = .ok (.istore 4, 2) := by decide +kernel
theorem dX1_enter_55 : decode cX1_enter 55 = .ok (.aload_n 0, 1) := by decide +kernel
theorem dX1_enter_56 : decode cX1_enter 56 = .ok (.getfield 23, 3) := by decide +kernel
theorem dX1_enter_59 : decode cX1_enter 59 = .ok (.ifCond .ne 15, 3) := by decide +kernel
theorem dX1_enter_62 : decode cX1_enter 62 = .ok (.iload_n 2, 1) := by decide +kernel
theorem dX1_enter_63 : decode cX1_enter 63 = .ok (.bipush 8, 2) := by decide +kernel
theorem dX1_enter_65 : decode cX1_enter 65 = .ok (.iload 4, 2) := by decide +kernel
theorem dX1_enter_67 : decode cX1_enter 67 = .ok (.imul, 1) := by decide +kernel
theorem dX1_enter_68 : decode cX1_enter 68 = .ok (.if_icmp .le 6, 3) := by decide +kernel
theorem dX1_enter_71 : decode cX1_enter 71 = .ok (.bipush (-3), 2) := by decide +kernel
theorem dX1_enter_73 : decode cX1_enter 73 = .ok (.ireturn, 1) := by decide +kernel
theorem dX1_enter_74 : decode cX1_enter 74 = .ok (.aload_n 0, 1) := by decide +kernel
theorem dX1_enter_75 : decode cX1_enter 75 = .ok (.iconst 2, 1) := by decide +kernel
theorem dX1_enter_76 : decode cX1_enter 76 = .ok (.iconst 0, 1) := by decide +kernel
theorem dX1_enter_77 : decode cX1_enter 77 = .ok (.iload_n 2, 1) := by decide +kernel
theorem dX1_enter_78 : decode cX1_enter 78 = .ok (.invokevirtual 61, 3) := by decide +kernel
theorem dX1_enter_81 : decode cX1_enter 81 = .ok (.aload_n 0, 1) := by decide +kernel
theorem dX1_enter_82 : decode cX1_enter 82 = .ok (.iconst 0, 1) := by decide +kernel
theorem dX1_enter_83 : decode cX1_enter 83 = .ok (.iconst 0, 1) := by decide +kernel
theorem dX1_enter_84 : decode cX1_enter 84 = .ok (.iload_n 1, 1) := by decide +kernel
theorem dX1_enter_85 : decode cX1_enter 85 = .ok (.invokevirtual 61, 3) := by decide +kernel
theorem dX1_enter_88 : decode cX1_enter 88 = .ok (.aload_n 0, 1) := by decide +kernel
theorem dX1_enter_89 : decode cX1_enter 89 = .ok (.iconst 4, 1) := by decide +kernel
theorem dX1_enter_90 : decode cX1_enter 90 = .ok (.iconst 0, 1) := by decide +kernel
theorem dX1_enter_91 : decode cX1_enter 91 = .ok (.iconst 1, 1) := by decide +kernel
theorem dX1_enter_92 : decode cX1_enter 92 = .ok (.invokevirtual 72, 3) := by decide +kernel
theorem dX1_enter_95 : decode cX1_enter 95 = .ok (.aload_n 0, 1) := by decide +kernel
theorem dX1_enter_96 : decode cX1_enter 96 = .ok (.iconst 4, 1) := by decide +kernel
theorem dX1_enter_97 : decode cX1_enter 97 = .ok (.iconst 0, 1) := by decide +kernel
theorem dX1_enter_98 : decode cX1_enter 98 = .ok (.invokevirtual 55, 3) := by decide +kernel
theorem dX1_enter_101 : decode cX1_enter 101 = .ok (.istore 5, 2) := by decide +kernel
theorem dX1_enter_103 : decode cX1_enter 103 = .ok (.aload_n 0, 1) := by decide +kernel
theorem dX1_enter_104 : decode cX1_enter 104 = .ok (.iload 5, 2) := by decide +kernel
theorem dX1_enter_106 : decode cX1_enter 106 = .ok (.invokevirtual 51, 3) := by decide +kernel
theorem dX1_enter_109 : decode cX1_enter 109 = .ok (.ireturn, 1) := by decide +kernel
set_option maxRecDepth 20000 in
theorem ggX1_moved_X1_cell : GoodIn wsX1_moved wsX1_cell := goodIn_r _ [5, 6, 7, 8, 9, 4, 10, 11, 12, 13, 14, 30, 31, 32, 33, 34, 35, 36, 37, 38, 39, 40, 41] (by decide +kernel) (by decide +kernel)
set_option maxRecDepth 20000 in
theorem gX1_moved_X1_cell : GoodIn wsX1_moved (wsV RX1 55 RX1 yX1_cell wsX1_cell) := goodIn_app (goodIn_of _ (by decide +kernel)) ggX1_moved_X1_cell
set_option maxRecDepth 20000 in
theorem ggX1_moved_X1_put : GoodIn wsX1_moved wsX1_put := goodIn_r _ [18, 6, 7, 8, 9, 4, 10, 11, 12, 13, 14, 19, 20, 21, 22, 23, 24, 25, 30, 31, 32, 33, 34, 35, 36, 37, 38, 39, 40, 41] (by decide +kernel) (by decide +kernel)
set_option maxRecDepth 20000 in
theorem gX1_moved_X1_put : GoodIn wsX1_moved (wsV RX1 61 RX1 yX1_put wsX1_put) := goodIn_app (goodIn_of _ (by decide +kernel)) ggX1_moved_X1_put
set_option maxRecDepth 20000 in
theorem ggX1_moved_X1_more : GoodIn wsX1_moved wsX1_more := goodIn_r _ [29, 6, 7, 8, 9, 4, 10, 11, 12, 13, 14, 19, 20, 21, 22, 23, 24, 25, 30, 31, 32, 33, 34, 35, 36, 37, 38, 39, 40, 41] (by decide +kernel) (by decide +kernel)
set_option maxRecDepth 20000 in
theorem gX1_moved_X1_more : GoodIn wsX1_moved (wsV RX1 72 RX1 yX1_more wsX1_more) := goodIn_app (goodIn_of _ (by decide +kernel)) ggX1_moved_X1_more
theorem dX1_moved_0 : decode cX1_moved 0 = .ok (.aload_n 0, 1) := by decide +kernel
theorem dX1_moved_1 : decode cX1_moved 1 = .ok (.iconst 2, 1) := by decide +kernel
theorem dX1_moved_2 : decode cX1_moved 2 = .ok (.iload_n 1, 1) := by decide +kernel
theorem dX1_moved_3 : decode cX1_moved 3 = .ok (.invokevirtual 55, 3) := by decide +kernel
theorem dX1_moved_6 : decode cX1_moved 6 = .ok (.istore_n 3, 1) := by decide +kernel
theorem dX1_moved_7 : decode cX1_moved 7 = .ok (.aload_n 0, 1) := by decide +kernel
theorem dX1_moved_8 : decode cX1_moved 8 = .ok (.iconst 2, 1) := by decide +kernel
theorem dX1_moved_9 : decode cX1_moved 9 = .ok (.iload_n 1, 1) := by decide +kernel
theorem dX1_moved_10 : decode cX1_moved 10 = .ok (.iconst 1, 1) := by decide +kernel
theorem dX1_moved_11 : decode cX1_moved 11 = .ok (.iadd, 1) := by decide +kernel
theorem dX1_moved_12 : decode cX1_moved 12 = .ok (.iload_n 3, 1) := by decide +kernel
theorem dX1_moved_13 : decode cX1_moved 13 = .ok (.invokevirtual 61, 3) := by decide +kernel
theorem dX1_moved_16 : decode cX1_moved 16 = .ok (.aload_n 0, 1) := by decide +kernel
theorem dX1_moved_17 : decode cX1_moved 17 = .ok (.iconst 0, 1) := by decide +kernel
theorem dX1_moved_18 : decode cX1_moved 18 = .ok (.iload_n 1, 1) := by decide +kernel
theorem dX1_moved_19 : decode cX1_moved 19 = .ok (.iconst 1, 1) := by decide +kernel
theorem dX1_moved_20 : decode cX1_moved 20 = .ok (.iadd, 1) := by decide +kernel
theorem dX1_moved_21 : decode cX1_moved 21 = .ok (.iload_n 2, 1) := by decide +kernel
theorem dX1_moved_22 : decode cX1_moved 22 = .ok (.invokevirtual 61, 3) := by decide +kernel
theorem dX1_moved_25 : decode cX1_moved 25 = .ok (.aload_n 0, 1) := by decide +kernel
theorem dX1_moved_26 : decode cX1_moved 26 = .ok (.iconst 4, 1) := by decide +kernel
theorem dX1_moved_27 : decode cX1_moved 27 = .ok (.iload_n 1, 1) := by decide +kernel
theorem dX1_moved_28 : decode cX1_moved 28 = .ok (.iconst 1, 1) := by decide +kernel
theorem dX1_moved_29 : decode cX1_moved 29 = .ok (.iadd, 1) := by decide +kernel
theorem dX1_moved_30 : decode cX1_moved 30 = .ok (.iconst 1, 1) := by decide +kernel
theorem dX1_moved_31 : decode cX1_moved 31 = .ok (.invokevirtual 72, 3) := by decide +kernel
theorem dX1_moved_34 : decode cX1_moved 34 = .ok (.iload_n 3, 1) := by decide +kernel
theorem dX1_moved_35 : decode cX1_moved 35 = .ok (.ireturn, 1) := by decide +kernel
set_option maxRecDepth 20000 in
theorem ggX1_pass_X1_isChamber : GoodIn wsX1_pass wsX1_isChamber := goodIn_r _ [10, 3, 48, 49, 50, 51, 52, 53, 54, 55, 56, 57, 58, 59] (by decide +kernel) (by decide +kernel)
set_option maxRecDepth 20000 in
theorem gX1_pass_X1_isChamber : GoodIn wsX1_pass (wsV RX1 69 RX1 yX1_isChamber wsX1_isChamber) := goodIn_app (goodIn_of _ (by decide +kernel)) ggX1_pass_X1_isChamber
set_option maxRecDepth 20000 in
theorem ggX1_pass_X1_cell : GoodIn wsX1_pass wsX1_cell := goodIn_r _ [14, 15, 16, 17, 18, 9, 19, 2, 20, 21, 22, 48, 49, 50, 51, 52, 53, 54, 55, 56, 57, 58, 59] (by decide +kernel) (by decide +kernel)
set_option maxRecDepth 20000 in
theorem gX1_pass_X1_cell : GoodIn wsX1_pass (wsV RX1 55 RX1 yX1_cell wsX1_cell) := goodIn_app (goodIn_of _ (by decide +kernel)) ggX1_pass_X1_cell
set_option maxRecDepth 20000 in
theorem ggX1_pass_X1_moved : GoodIn wsX1_pass wsX1_moved := goodIn_r _ [26, 11, 12, 13, 9, 14, 15, 16, 17, 18, 19, 2, 20, 21, 22, 27, 28, 29, 30, 31, 32, 33, 34, 35, 36, 37, 38, 39, 40, 41, 48, 49, 50, 51, 52, 53, 54, 55, 56, 57, 58, 59] (by decide +kernel) (by decide +kernel)
set_option maxRecDepth 20000 in
theorem gX1_pass_X1_moved : GoodIn wsX1_pass (wsV RX1 81 RX1 yX1_moved wsX1_moved) := goodIn_app (goodIn_of _ (by decide +kernel)) ggX1_pass_X1_moved
set_option maxRecDepth 20000 in
theorem ggX1_pass_X1_put : GoodIn wsX1_pass wsX1_put := goodIn_r _ [30, 15, 16, 17, 18, 9, 19, 2, 20, 21, 22, 31, 32, 33, 34, 35, 36, 37, 48, 49, 50, 51, 52, 53, 54, 55, 56, 57, 58, 59] (by decide +kernel) (by decide +kernel)
set_option maxRecDepth 20000 in
theorem gX1_pass_X1_put : GoodIn wsX1_pass (wsV RX1 61 RX1 yX1_put wsX1_put) := goodIn_app (goodIn_of _ (by decide +kernel)) ggX1_pass_X1_put
set_option maxRecDepth 20000 in
theorem ggX1_pass_X1_answer : GoodIn wsX1_pass wsX1_answer := goodIn_r _ [45, 2, 46, 47, 48, 49, 50, 51, 52, 53, 54, 55, 56, 57, 58, 59] (by decide +kernel) (by decide +kernel)
set_option maxRecDepth 20000 in
theorem gX1_pass_X1_answer : GoodIn wsX1_pass (wsV RX1 51 RX1 yX1_answer wsX1_answer) := goodIn_app (goodIn_of _ (by decide +kernel)) ggX1_pass_X1_answer
theorem dX1_pass_0 : decode cX1_pass 0 = .ok (.aload_n 0, 1) := by decide +kernel
theorem dX1_pass_1 : decode cX1_pass 1 = .ok (.iload_n 1, 1) := by decide +kernel
theorem dX1_pass_2 : decode cX1_pass 2 = .ok (.invokevirtual 69, 3) := by decide +kernel
theorem dX1_pass_5 : decode cX1_pass 5 = .ok (.ifCond .ne 6, 3) := by decide +kernel
theorem dX1_pass_8 : decode cX1_pass 8 = .ok (.ldc 50, 2) := by decide +kernel
theorem dX1_pass_10 : decode cX1_pass 10 = .ok (.ireturn, 1) := by decide +kernel
theorem dX1_pass_11 : decode cX1_pass 11 = .ok (.aload_n 0, 1) := by decide +kernel
theorem dX1_pass_12 : decode cX1_pass 12 = .ok (.iconst 0, 1) := by decide +kernel
theorem dX1_pass_13 : decode cX1_pass 13 = .ok (.putfield 23, 3) := by decide +kernel
theorem dX1_pass_16 : decode cX1_pass 16 = .ok (.aload_n 0, 1) := by decide +kernel
theorem dX1_pass_17 : decode cX1_pass 17 = .ok (.iconst 3, 1) := by decide +kernel
theorem dX1_pass_18 : decode cX1_pass 18 = .ok (.iload_n 1, 1) := by decide +kernel
theorem dX1_pass_19 : decode cX1_pass 19 = .ok (.invokevirtual 55, 3) := by decide +kernel
theorem dX1_pass_22 : decode cX1_pass 22 = .ok (.istore_n 2, 1) := by decide +kernel
theorem dX1_pass_23 : decode cX1_pass 23 = .ok (.aload_n 0, 1) := by decide +kernel
theorem dX1_pass_24 : decode cX1_pass 24 = .ok (.getfield 23, 3) := by decide +kernel
theorem dX1_pass_27 : decode cX1_pass 27 = .ok (.ifCond .ne 10, 3) := by decide +kernel
theorem dX1_pass_30 : decode cX1_pass 30 = .ok (.iload_n 2, 1) := by decide +kernel
theorem dX1_pass_31 : decode cX1_pass 31 = .ok (.ifCond .ne 6, 3) := by decide +kernel
theorem dX1_pass_34 : decode cX1_pass 34 = .ok (.bipush (-2), 2) := by decide +kernel
theorem dX1_pass_36 : decode cX1_pass 36 = .ok (.ireturn, 1) := by decide +kernel
theorem dX1_pass_37 : decode cX1_pass 37 = .ok (.aload_n 0, 1) := by decide +kernel
theorem dX1_pass_38 : decode cX1_pass 38 = .ok (.iconst 0, 1) := by decide +kernel
theorem dX1_pass_39 : decode cX1_pass 39 = .ok (.iload_n 1, 1) := by decide +kernel
theorem dX1_pass_40 : decode cX1_pass 40 = .ok (.invokevirtual 55, 3) := by decide +kernel
theorem dX1_pass_43 : decode cX1_pass 43 = .ok (.istore_n 3, 1) := by decide +kernel
theorem dX1_pass_44 : decode cX1_pass 44 = .ok (.aload_n 0, 1) := by decide +kernel
theorem dX1_pass_45 : decode cX1_pass 45 = .ok (.getfield 23, 3) := by decide +kernel
theorem dX1_pass_48 : decode cX1_pass 48 = .ok (.ifCond .ne 10, 3) := by decide +kernel
theorem dX1_pass_51 : decode cX1_pass 51 = .ok (.iload_n 3, 1) := by decide +kernel
theorem dX1_pass_52 : decode cX1_pass 52 = .ok (.ifCond .ne 6, 3) := by decide +kernel
theorem dX1_pass_55 : decode cX1_pass 55 = .ok (.bipush (-3), 2) := by decide +kernel
theorem dX1_pass_57 : decode cX1_pass 57 = .ok (.ireturn, 1) := by decide +kernel
theorem dX1_pass_58 : decode cX1_pass 58 = .ok (.iconst 0, 1) := by decide +kernel
theorem dX1_pass_59 : decode cX1_pass 59 = .ok (.istore 4, 2) := by decide +kernel
theorem dX1_pass_61 : decode cX1_pass 61 = .ok (.iload_n 1, 1) := by decide +kernel
theorem dX1_pass_62 : decode cX1_pass 62 = .ok (.iconst 1, 1) := by decide +kernel
theorem dX1_pass_63 : decode cX1_pass 63 = .ok (.iadd, 1) := by decide +kernel
theorem dX1_pass_64 : decode cX1_pass 64 = .ok (.aload_n 0, 1) := by decide +kernel
theorem dX1_pass_65 : decode cX1_pass 65 = .ok (.getfield 19, 3) := by decide +kernel
theorem dX1_pass_68 : decode cX1_pass 68 = .ok (.if_icmp .ne 42, 3) := by decide +kernel
theorem dX1_pass_71 : decode cX1_pass 71 = .ok (.aload_n 0, 1) := by decide +kernel
theorem dX1_pass_72 : decode cX1_pass 72 = .ok (.iconst 2, 1) := by decide +kernel
theorem dX1_pass_73 : decode cX1_pass 73 = .ok (.iload_n 1, 1) := by decide +kernel
theorem dX1_pass_74 : decode cX1_pass 74 = .ok (.invokevirtual 55, 3) := by decide +kernel
theorem dX1_pass_77 : decode cX1_pass 77 = .ok (.istore 4, 2) := by decide +kernel
theorem dX1_pass_79 : decode cX1_pass 79 = .ok (.aload_n 0, 1) := by decide +kernel
theorem dX1_pass_80 : decode cX1_pass 80 = .ok (.getfield 23, 3) := by decide +kernel
theorem dX1_pass_83 : decode cX1_pass 83 = .ok (.ifCond .ne 60, 3) := by decide +kernel
theorem dX1_pass_86 : decode cX1_pass 86 = .ok (.aload_n 0, 1) := by decide +kernel
theorem dX1_pass_87 : decode cX1_pass 87 = .ok (.dup, 1) := by decide +kernel
theorem dX1_pass_88 : decode cX1_pass 88 = .ok (.getfield 75, 3) := by decide +kernel
theorem dX1_pass_91 : decode cX1_pass 91 = .ok (.iconst 1, 1) := by decide +kernel
theorem dX1_pass_92 : decode cX1_pass 92 = .ok (.iadd, 1) := by decide +kernel
theorem dX1_pass_93 : decode cX1_pass 93 = .ok (.putfield 75, 3) := by decide +kernel
theorem dX1_pass_96 : decode cX1_pass 96 = .ok (.aload_n 0, 1) := by decide +kernel
